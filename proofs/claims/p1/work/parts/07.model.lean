def sp_in (a lo hi : Int32) : Int32 := if a < lo then 0 else if hi < a then 0 else 1
theorem sp_in_01 (a lo hi : Int32) : sp_in a lo hi = 0 ∨ sp_in a lo hi = 1 := by
  unfold sp_in
  by_cases h : a < lo
  · rw [if_pos h]; exact Or.inl rfl
  · rw [if_neg h]
    by_cases g : hi < a
    · rw [if_pos g]; exact Or.inl rfl
    · rw [if_neg g]; exact Or.inr rfl
theorem sp_in_z {a lo hi : Int32} (h : sp_in a lo hi = 0) : a < lo ∨ hi < a := by
  unfold sp_in at h
  by_cases q : a < lo
  · exact Or.inl q
  · rw [if_neg q] at h
    by_cases g : hi < a
    · exact Or.inr g
    · rw [if_neg g] at h; exact absurd h (by decide)
theorem sp_in_nz {a lo hi : Int32} (h : ¬ sp_in a lo hi = 0) : ¬ a < lo ∧ ¬ hi < a := by
  unfold sp_in at h
  by_cases q : a < lo
  · rw [if_pos q] at h; exact absurd rfl h
  · rw [if_neg q] at h
    by_cases g : hi < a
    · rw [if_pos g] at h; exact absurd rfl h
    · exact ⟨q, g⟩
theorem sp_in_m (a : Int32) : sp_in a 0 (-1) = 0 := by
  rcases sp_in_01 a 0 (-1) with h | h
  · exact h
  · obtain ⟨h1, h2⟩ := sp_in_nz (a := a) (lo := 0) (hi := -1) (by rw [h]; decide)
    rw [Int32.lt_iff_toInt_lt] at h1 h2
    have e0 : (0 : Int32).toInt = 0 := by decide
    have e1 : (-1 : Int32).toInt = -1 := by decide
    omega
theorem kq_suc {a : Int32} (n : Nat) (hn : n + 1 < 2 ^ 31) : nI n < a ↔ nI (n + 1) ≤ a := by
  rw [Int32.lt_iff_toInt_lt, Int32.le_iff_toInt_le, nI_toInt hn, nI_toInt (by omega)]
  omega
theorem kq_s1 {a : Int32} : (1 : Int32) < a ↔ 2 ≤ a := kq_suc 1 (by decide)
theorem kq_s7 {a : Int32} : (7 : Int32) < a ↔ 8 ≤ a := kq_suc 7 (by decide)
abbrev rmX8_in : Room := { frames := 0, cells := 0, slots := 0, locals := 0 }
set_option maxHeartbeats 4000000 in
set_option maxRecDepth 100000 in
theorem c_X8_in (l : Launch) (E : kq_T) (L : List Nat) (σ : Nat → va_E) (a b d : Int32) : kq_I l E yX8_in wsX8_in rmX8_in [.int a, .int b, .int d] L σ (fun r L1 σ1 => r = sp_in a b d ∧ L = L1 ∧ σ = σ1) := by
  refine kq_enterI (cc := cX8_in) (maxL := 3) (ret := (some .boolean)) (by decide) rfl (Nat.le_of_ble_eq_true rfl) rfl ?_
  intro p e s m below meth c A ls C hK hw hl
  obtain ⟨hx, hb, hml, hown, hts, hr, hlocks, hnm⟩ := C
  have hown : s.vm.findClass RX8 = some m.cls := hown
  have hl : lv_has ls 3 [(0, .int a), (1, .int b), (2, .int d)] := hl
  refine lv_iload_n hx hb dX8_in_0 rfl (lv_at hl 0 rfl) ?_
  refine lv_iload_n hx hb dX8_in_1 rfl (lv_at hl 1 rfl) ?_
  refine lv_icmp_lt (tgt := 14) hx hb dX8_in_2 (by decide) (fun c1 => ?_) (fun c1 => ?_)
  · skip
    refine lv_iconst (v := 0) hx hb dX8_in_14 (by decide) ?_
    exact kq_zret hx hb hr hlocks hw (Nat.le_of_ble_eq_true rfl) (Nat.le_of_ble_eq_true rfl) (Or.inl rfl) dX8_in_15 ⟨by simp [sp_in, c1, kq_nle c1], rfl, rfl⟩
  · skip
    refine lv_iload_n hx hb dX8_in_5 rfl (lv_at hl 0 rfl) ?_
    refine lv_iload_n hx hb dX8_in_6 rfl (lv_at hl 2 rfl) ?_
    refine lv_icmp_gt (tgt := 14) hx hb dX8_in_7 (by decide) (fun c2 => ?_) (fun c2 => ?_)
    · skip
      refine lv_iconst (v := 0) hx hb dX8_in_14 (by decide) ?_
      exact kq_zret hx hb hr hlocks hw (Nat.le_of_ble_eq_true rfl) (Nat.le_of_ble_eq_true rfl) (Or.inl rfl) dX8_in_15 ⟨by simp [sp_in, c1, Int32.not_lt.mp c1, c2, kq_nle c2], rfl, rfl⟩
    · skip
      refine lv_iconst (v := 1) hx hb dX8_in_10 (by decide) ?_
      refine lv_goto (tgt := 15) hx hb dX8_in_11 (by decide) ?_
      exact kq_zret hx hb hr hlocks hw (Nat.le_of_ble_eq_true rfl) (Nat.le_of_ble_eq_true rfl) (Or.inr rfl) dX8_in_15 ⟨by simp [sp_in, c1, Int32.not_lt.mp c1, c2, Int32.not_lt.mp c2], rfl, rfl⟩
abbrev rmX8_isRow : Room := { frames := 1, cells := 0, slots := 0, locals := 22 }
set_option maxHeartbeats 4000000 in
set_option maxRecDepth 100000 in
theorem c_X8_isRow (l : Launch) (E : kq_T) (L : List Nat) (σ : Nat → va_E) (a : Int32) : kq_I l E yX8_isRow wsX8_isRow rmX8_isRow [.int a] L σ (fun r L1 σ1 => r = sp_in a 0 7 ∧ L = L1 ∧ σ = σ1) := by
  refine kq_enterI (cc := cX8_isRow) (maxL := 1) (ret := (some .boolean)) (by decide) rfl (Nat.le_of_ble_eq_true rfl) rfl ?_
  intro p e s m below meth c A ls C hK hw hl
  obtain ⟨hx, hb, hml, hown, hts, hr, hlocks, hnm⟩ := C
  have hown : s.vm.findClass RX8 = some m.cls := hown
  have hl : lv_has ls 1 [(0, .int a)] := hl
  refine lv_iload_n hx hb dX8_isRow_0 rfl (lv_at hl 0 rfl) ?_
  refine lv_iconst (v := 0) hx hb dX8_isRow_1 (by decide) ?_
  refine lv_bipush (v := 7) hx hb dX8_isRow_2 (by decide) ?_
  refine kq_callS (As := [.int a, .int 0, .int 7]) (rest := []) (n := 3) (mc := 0) (ms := 0) ⟨hx, hb, hml, hown, hts⟩ (c_X8_in l E L σ a 0 7) gX8_isRow_X8_in rfl (by decide +kernel) ⟨Nat.le_of_ble_eq_true rfl, Nat.le_of_ble_eq_true rfl⟩ hK hw rfl hl.1 rfl (Nat.le_of_ble_eq_true rfl) dX8_isRow_4 rfl rfl ⟨Nat.le_of_ble_eq_true rfl, Nat.le_of_ble_eq_true rfl⟩ (fun r1 Lv σv H locs hp hw => ?_)
  obtain ⟨er1, rfl, rfl⟩ := hp
  exact kq_zret hx hb hr hlocks hw (Nat.le_of_ble_eq_true rfl) (Nat.le_of_ble_eq_true rfl) (by rw [er1]; exact sp_in_01 _ _ _) dX8_isRow_7 ⟨er1, rfl, rfl⟩
abbrev rmX8_isGate : Room := { frames := 0, cells := 0, slots := 0, locals := 0 }
set_option maxHeartbeats 4000000 in
set_option maxRecDepth 100000 in
theorem c_X8_isGate (l : Launch) (E : kq_T) (L : List Nat) (σ : Nat → va_E) {m_ : Nat} (hF : fr_M E L σ m_) : kq_I l E yX8_isGate wsX8_isGate rmX8_isGate [.ref m_] L σ (fun r L1 σ1 => r = 0 ∧ L = L1 ∧ σ = σ1) := by
  obtain ⟨la, mn, it, sp, tp, nw, dr, tr, pa, im, kp, me, tc, fl, hL_m_, hS_m_, hL_la, hS_la, hL_mn, hS_mn, hL_it, hS_it, hL_tp, hS_tp, hL_nw, hS_nw, hL_dr, hS_dr, hL_kp, hS_kp, hlm, hfl⟩ := hF
  refine kq_enterI (cc := cX8_isGate) (maxL := 1) (ret := (some .boolean)) (by decide) rfl (Nat.le_of_ble_eq_true rfl) rfl ?_
  intro p e s m below meth c A ls C hK hw hl
  obtain ⟨hx, hb, hml, hown, hts, hr, hlocks, hnm⟩ := C
  have hown : s.vm.findClass RX8 = some m.cls := hown
  have hl : lv_has ls 1 [(0, .ref m_)] := hl
  refine lv_aload_n hx hb dX8_isGate_0 rfl (lv_at hl 0 rfl) ?_
  refine kq_get (ci := 8) (v := .ref nw) (C := RX8) (T := TX8) (N := 23) hx hb hts (by decide +kernel) hown hK hw hL_m_ hS_m_ rfl 13 (by decide) (hts (.fieldLink RX8 25 "WrongWordModel" "now" "[I") (by decide +kernel)) rfl dX8_isGate_1 ?_
  refine lv_iconst (v := 3) hx hb dX8_isGate_4 (by decide) ?_
  refine kq_iald hx hb hK hw hL_nw hS_nw (by unfold vp_in; decide) dX8_isGate_5 ?_
  refine lv_topi (fun v1 ev1 => ?_)
  have ev1 : v1 = 0 := ev1
  subst ev1
  refine lv_if_le (tgt := 13) hx hb dX8_isGate_6 (by decide) (fun c2 => ?_) (fun c2 => ?_)
  · skip
    refine lv_iconst (v := 0) hx hb dX8_isGate_13 (by decide) ?_
    exact kq_zret hx hb hr hlocks hw (Nat.le_of_ble_eq_true rfl) (Nat.le_of_ble_eq_true rfl) (Or.inl rfl) dX8_isGate_14 ⟨rfl, rfl, rfl⟩
  · skip
    exact absurd (by decide) c2
abbrev rmX8_isWord : Room := { frames := 1, cells := 0, slots := 0, locals := 22 }
set_option maxHeartbeats 4000000 in
set_option maxRecDepth 100000 in
theorem c_X8_isWord (l : Launch) (E : kq_T) (L : List Nat) (σ : Nat → va_E) {m_ : Nat} (hF : fr_M E L σ m_) (a : Int32) : kq_I l E yX8_isWord wsX8_isWord rmX8_isWord [.ref m_, .int a] L σ (fun r L1 σ1 => r = 0 ∧ L = L1 ∧ σ = σ1) := by
  obtain ⟨la, mn, it, sp, tp, nw, dr, tr, pa, im, kp, me, tc, fl, hL_m_, hS_m_, hL_la, hS_la, hL_mn, hS_mn, hL_it, hS_it, hL_tp, hS_tp, hL_nw, hS_nw, hL_dr, hS_dr, hL_kp, hS_kp, hlm, hfl⟩ := hF
  refine kq_enterI (cc := cX8_isWord) (maxL := 2) (ret := (some .boolean)) (by decide) rfl (Nat.le_of_ble_eq_true rfl) rfl ?_
  intro p e s m below meth c A ls C hK hw hl
  obtain ⟨hx, hb, hml, hown, hts, hr, hlocks, hnm⟩ := C
  have hown : s.vm.findClass RX8 = some m.cls := hown
  have hl : lv_has ls 2 [(0, .ref m_), (1, .int a)] := hl
  refine lv_iload_n hx hb dX8_isWord_0 rfl (lv_at hl 1 rfl) ?_
  refine lv_iconst (v := 0) hx hb dX8_isWord_1 (by decide) ?_
  refine lv_aload_n hx hb dX8_isWord_2 rfl (lv_at hl 0 rfl) ?_
  refine kq_get (ci := 8) (v := .ref nw) (C := RX8) (T := TX8) (N := 23) hx hb hts (by decide +kernel) hown hK hw hL_m_ hS_m_ rfl 13 (by decide) (hts (.fieldLink RX8 25 "WrongWordModel" "now" "[I") (by decide +kernel)) rfl dX8_isWord_3 ?_
  refine lv_iconst (v := 3) hx hb dX8_isWord_6 (by decide) ?_
  refine kq_iald hx hb hK hw hL_nw hS_nw (by unfold vp_in; decide) dX8_isWord_7 ?_
  refine lv_topi (fun v1 ev1 => ?_)
  have ev1 : v1 = 0 := ev1
  subst ev1
  refine lv_iconst (v := 1) hx hb dX8_isWord_8 (by decide) ?_
  refine lv_isub hx hb dX8_isWord_9 ?_
  refine lv_topi (fun v2 ev2 => ?_)
  have ev2 : v2 = (-1) := by rw [ev2]; decide
  subst ev2
  refine kq_callS (As := [.int a, .int 0, .int ((-1))]) (rest := []) (n := 3) (mc := 0) (ms := 0) ⟨hx, hb, hml, hown, hts⟩ (c_X8_in l E L σ a 0 ((-1))) gX8_isWord_X8_in rfl (by decide +kernel) ⟨Nat.le_of_ble_eq_true rfl, Nat.le_of_ble_eq_true rfl⟩ hK hw rfl hl.1 rfl (Nat.le_of_ble_eq_true rfl) dX8_isWord_10 rfl rfl ⟨Nat.le_of_ble_eq_true rfl, Nat.le_of_ble_eq_true rfl⟩ (fun r3 Lv σv H locs hp hw => ?_)
  obtain ⟨er3, rfl, rfl⟩ := hp
  have er3 : r3 = 0 := er3.trans (sp_in_m _)
  subst er3
  exact kq_zret hx hb hr hlocks hw (Nat.le_of_ble_eq_true rfl) (Nat.le_of_ble_eq_true rfl) (Or.inl rfl) dX8_isWord_13 ⟨rfl, rfl, rfl⟩
abbrev rmX8_isGuard : Room := { frames := 1, cells := 0, slots := 0, locals := 22 }
set_option maxHeartbeats 4000000 in
set_option maxRecDepth 100000 in
theorem c_X8_isGuard (l : Launch) (E : kq_T) (L : List Nat) (σ : Nat → va_E) {m_ : Nat} (hF : fr_M E L σ m_) (a : Int32) : kq_I l E yX8_isGuard wsX8_isGuard rmX8_isGuard [.ref m_, .int a] L σ (fun r L1 σ1 => r = 0 ∧ L = L1 ∧ σ = σ1) := by
  obtain ⟨la, mn, it, sp, tp, nw, dr, tr, pa, im, kp, me, tc, fl, hL_m_, hS_m_, hL_la, hS_la, hL_mn, hS_mn, hL_it, hS_it, hL_tp, hS_tp, hL_nw, hS_nw, hL_dr, hS_dr, hL_kp, hS_kp, hlm, hfl⟩ := hF
  refine kq_enterI (cc := cX8_isGuard) (maxL := 2) (ret := (some .boolean)) (by decide) rfl (Nat.le_of_ble_eq_true rfl) rfl ?_
  intro p e s m below meth c A ls C hK hw hl
  obtain ⟨hx, hb, hml, hown, hts, hr, hlocks, hnm⟩ := C
  have hown : s.vm.findClass RX8 = some m.cls := hown
  have hl : lv_has ls 2 [(0, .ref m_), (1, .int a)] := hl
  refine lv_iload_n hx hb dX8_isGuard_0 rfl (lv_at hl 1 rfl) ?_
  refine lv_iconst (v := 0) hx hb dX8_isGuard_1 (by decide) ?_
  refine lv_aload_n hx hb dX8_isGuard_2 rfl (lv_at hl 0 rfl) ?_
  refine kq_get (ci := 8) (v := .ref nw) (C := RX8) (T := TX8) (N := 23) hx hb hts (by decide +kernel) hown hK hw hL_m_ hS_m_ rfl 13 (by decide) (hts (.fieldLink RX8 25 "WrongWordModel" "now" "[I") (by decide +kernel)) rfl dX8_isGuard_3 ?_
  refine lv_iconst (v := 4) hx hb dX8_isGuard_6 (by decide) ?_
  refine kq_iald hx hb hK hw hL_nw hS_nw (by unfold vp_in; decide) dX8_isGuard_7 ?_
  refine lv_topi (fun v1 ev1 => ?_)
  have ev1 : v1 = 0 := ev1
  subst ev1
  refine lv_iconst (v := 1) hx hb dX8_isGuard_8 (by decide) ?_
  refine lv_isub hx hb dX8_isGuard_9 ?_
  refine lv_topi (fun v2 ev2 => ?_)
  have ev2 : v2 = (-1) := by rw [ev2]; decide
  subst ev2
  refine kq_callS (As := [.int a, .int 0, .int ((-1))]) (rest := []) (n := 3) (mc := 0) (ms := 0) ⟨hx, hb, hml, hown, hts⟩ (c_X8_in l E L σ a 0 ((-1))) gX8_isGuard_X8_in rfl (by decide +kernel) ⟨Nat.le_of_ble_eq_true rfl, Nat.le_of_ble_eq_true rfl⟩ hK hw rfl hl.1 rfl (Nat.le_of_ble_eq_true rfl) dX8_isGuard_10 rfl rfl ⟨Nat.le_of_ble_eq_true rfl, Nat.le_of_ble_eq_true rfl⟩ (fun r3 Lv σv H locs hp hw => ?_)
  obtain ⟨er3, rfl, rfl⟩ := hp
  have er3 : r3 = 0 := er3.trans (sp_in_m _)
  subst er3
  exact kq_zret hx hb hr hlocks hw (Nat.le_of_ble_eq_true rfl) (Nat.le_of_ble_eq_true rfl) (Or.inl rfl) dX8_isGuard_13 ⟨rfl, rfl, rfl⟩
abbrev rmX8_isMissing : Room := { frames := 0, cells := 0, slots := 0, locals := 0 }
set_option maxHeartbeats 4000000 in
set_option maxRecDepth 100000 in
theorem c_X8_isMissing (l : Launch) (E : kq_T) (L : List Nat) (σ : Nat → va_E) {m_ : Nat} (hF : fr_M E L σ m_) (a : Int32) (hin : vp_in a 8) : kq_I l E yX8_isMissing wsX8_isMissing rmX8_isMissing [.ref m_, .int a] L σ (fun r L1 σ1 => r = 1 ∧ L = L1 ∧ σ = σ1) := by
  obtain ⟨la, mn, it, sp, tp, nw, dr, tr, pa, im, kp, me, tc, fl, hL_m_, hS_m_, hL_la, hS_la, hL_mn, hS_mn, hL_it, hS_it, hL_tp, hS_tp, hL_nw, hS_nw, hL_dr, hS_dr, hL_kp, hS_kp, hlm, hfl⟩ := hF
  refine kq_enterI (cc := cX8_isMissing) (maxL := 2) (ret := (some .boolean)) (by decide) rfl (Nat.le_of_ble_eq_true rfl) rfl ?_
  intro p e s m below meth c A ls C hK hw hl
  obtain ⟨hx, hb, hml, hown, hts, hr, hlocks, hnm⟩ := C
  have hown : s.vm.findClass RX8 = some m.cls := hown
  have hl : lv_has ls 2 [(0, .ref m_), (1, .int a)] := hl
  refine lv_aload_n hx hb dX8_isMissing_0 rfl (lv_at hl 0 rfl) ?_
  refine kq_get (ci := 8) (v := .ref la) (C := RX8) (T := TX8) (N := 23) hx hb hts (by decide +kernel) hown hK hw hL_m_ hS_m_ rfl 0 (by decide) (hts (.fieldLink RX8 7 "WrongWordModel" "lane" "[I") (by decide +kernel)) rfl dX8_isMissing_1 ?_
  refine lv_iload_n hx hb dX8_isMissing_4 rfl (lv_at hl 1 rfl) ?_
  refine kq_iald hx hb hK hw hL_la hS_la hin dX8_isMissing_5 ?_
  refine lv_topi (fun v1 ev1 => ?_)
  have ev1 : v1 = (-1000000) := ev1.trans (hfl _ (Nat.not_le.mp fun h9 => hin (Or.inr h9)))
  subst ev1
  refine lv_ldc (v := (-1000000)) hx hb hown (hts (.constant RX8 50 (-1000000)) (by decide +kernel)) dX8_isMissing_6 ?_
  refine lv_icmp_ne (tgt := 15) hx hb dX8_isMissing_8 (by decide) (fun c2 => ?_) (fun c2 => ?_)
  · skip
    exact absurd c2 (by decide)
  · skip
    refine lv_iconst (v := 1) hx hb dX8_isMissing_11 (by decide) ?_
    refine lv_goto (tgt := 16) hx hb dX8_isMissing_12 (by decide) ?_
    exact kq_zret hx hb hr hlocks hw (Nat.le_of_ble_eq_true rfl) (Nat.le_of_ble_eq_true rfl) (Or.inr rfl) dX8_isMissing_16 ⟨rfl, rfl, rfl⟩
abbrev rmX8_found : Room := { frames := 0, cells := 0, slots := 0, locals := 0 }
set_option maxHeartbeats 4000000 in
set_option maxRecDepth 100000 in
theorem c_X8_found (l : Launch) (E : kq_T) (L : List Nat) (σ : Nat → va_E) {m_ la mn it sp tp nw dr tr pa im kp me tc : Nat} {us ud uk up ua uS ut uv uc uz : Int32} (a : Int32) (hL_m_ : m_ ∈ L) (hS_m_ : σ m_ = .inr (8, [.ref la, .ref mn, .ref it, .ref sp, .int us, .ref tp, .int ud, .int uk, .int up, .int ua, .int uS, .int ut, .int uv, .ref nw, .ref dr, .ref tr, .ref pa, .int uc, .ref im, .ref kp, .ref me, .ref tc, .int uz])) : kq_I l E yX8_found wsX8_found rmX8_found [.ref m_, .int a] L σ (fun r _ _ => r = (-1000010) - a) := by
  refine kq_enterI (cc := cX8_found) (maxL := 2) (ret := (some .int)) (by decide) rfl (Nat.le_of_ble_eq_true rfl) rfl ?_
  intro p e s m below meth c A ls C hK hw hl
  obtain ⟨hx, hb, hml, hown, hts, hr, hlocks, hnm⟩ := C
  have hown : s.vm.findClass RX8 = some m.cls := hown
  have hl : lv_has ls 2 [(0, .ref m_), (1, .int a)] := hl
  refine lv_aload_n hx hb dX8_found_0 rfl (lv_at hl 0 rfl) ?_
  refine lv_iload_n hx hb dX8_found_1 rfl (lv_at hl 1 rfl) ?_
  refine kq_put (ci := 8) (v := .int a) (ty := .int) (C := RX8) (T := TX8) (N := 23) (fs' := [.ref la, .ref mn, .ref it, .ref sp, .int a, .ref tp, .int ud, .int uk, .int up, .int ua, .int uS, .int ut, .int uv, .ref nw, .ref dr, .ref tr, .ref pa, .int uc, .ref im, .ref kp, .ref me, .ref tc, .int uz]) hx hb hts (by decide +kernel) tyX8 tyX8_ok nmX8 hown hK hw hL_m_ hS_m_ rfl 4 (by decide) (hts (.fieldLink RX8 51 "WrongWordModel" "status" "I") (by decide +kernel)) rfl (by decide +kernel) rfl rfl (Nat.le_of_ble_eq_true rfl) rfl dX8_found_2 (fun H locs σ1 eσ1 hw => ?_)
  have nhS_m_ : σ1 m_ = .inr (8, [.ref la, .ref mn, .ref it, .ref sp, .int a, .ref tp, .int ud, .int uk, .int up, .int ua, .int uS, .int ut, .int uv, .ref nw, .ref dr, .ref tr, .ref pa, .int uc, .ref im, .ref kp, .ref me, .ref tc, .int uz]) := by rw [eσ1]; exact va_up_self _ _ _
  have hS_m_ := nhS_m_
  refine lv_ldc (v := (-1000010)) hx hb hown (hts (.constant RX8 55 (-1000010)) (by decide +kernel)) dX8_found_5 ?_
  refine lv_iload_n hx hb dX8_found_7 rfl (lv_at hl 1 rfl) ?_
  refine lv_isub hx hb dX8_found_8 ?_
  exact kq_iret hx hb hr hlocks hw (Nat.le_of_ble_eq_true rfl) (Nat.le_of_ble_eq_true rfl) dX8_found_9 rfl
abbrev rmX8_well : Room := { frames := 0, cells := 0, slots := 0, locals := 0 }
set_option maxHeartbeats 4000000 in
set_option maxRecDepth 100000 in
theorem c_X8_well (l : Launch) (E : kq_T) (L : List Nat) (σ : Nat → va_E) {m_ la mn it sp tp nw dr tr pa im kp me tc : Nat} {us ud uk up ua uS ut uv uc uz : Int32} (a : Int32) (hL_m_ : m_ ∈ L) (hS_m_ : σ m_ = .inr (8, [.ref la, .ref mn, .ref it, .ref sp, .int us, .ref tp, .int ud, .int uk, .int up, .int ua, .int uS, .int ut, .int uv, .ref nw, .ref dr, .ref tr, .ref pa, .int uc, .ref im, .ref kp, .ref me, .ref tc, .int uz])) : kq_I l E yX8_well wsX8_well rmX8_well [.ref m_, .int a] L σ (fun r _ _ => r = a) := by
  refine kq_enterI (cc := cX8_well) (maxL := 2) (ret := (some .int)) (by decide) rfl (Nat.le_of_ble_eq_true rfl) rfl ?_
  intro p e s m below meth c A ls C hK hw hl
  obtain ⟨hx, hb, hml, hown, hts, hr, hlocks, hnm⟩ := C
  have hown : s.vm.findClass RX8 = some m.cls := hown
  have hl : lv_has ls 2 [(0, .ref m_), (1, .int a)] := hl
  refine lv_aload_n hx hb dX8_well_0 rfl (lv_at hl 0 rfl) ?_
  refine lv_iconst (v := 0) hx hb dX8_well_1 (by decide) ?_
  refine kq_put (ci := 8) (v := .int 0) (ty := .int) (C := RX8) (T := TX8) (N := 23) (fs' := [.ref la, .ref mn, .ref it, .ref sp, .int 0, .ref tp, .int ud, .int uk, .int up, .int ua, .int uS, .int ut, .int uv, .ref nw, .ref dr, .ref tr, .ref pa, .int uc, .ref im, .ref kp, .ref me, .ref tc, .int uz]) hx hb hts (by decide +kernel) tyX8 tyX8_ok nmX8 hown hK hw hL_m_ hS_m_ rfl 4 (by decide) (hts (.fieldLink RX8 51 "WrongWordModel" "status" "I") (by decide +kernel)) rfl (by decide +kernel) rfl rfl (Nat.le_of_ble_eq_true rfl) rfl dX8_well_2 (fun H locs σ1 eσ1 hw => ?_)
  have nhS_m_ : σ1 m_ = .inr (8, [.ref la, .ref mn, .ref it, .ref sp, .int 0, .ref tp, .int ud, .int uk, .int up, .int ua, .int uS, .int ut, .int uv, .ref nw, .ref dr, .ref tr, .ref pa, .int uc, .ref im, .ref kp, .ref me, .ref tc, .int uz]) := by rw [eσ1]; exact va_up_self _ _ _
  have hS_m_ := nhS_m_
  refine lv_iload_n hx hb dX8_well_5 rfl (lv_at hl 1 rfl) ?_
  exact kq_iret hx hb hr hlocks hw (Nat.le_of_ble_eq_true rfl) (Nat.le_of_ble_eq_true rfl) dX8_well_6 rfl
abbrev rmX8_nights : Room := { frames := 1, cells := 0, slots := 0, locals := 20 }
set_option maxHeartbeats 4000000 in
set_option maxRecDepth 100000 in
theorem f_X8_nights (l : Launch) (E : kq_T) (L : List Nat) (σ : Nat → va_E) {m_ : Nat} (hF : fr_M E L σ m_) (a0 : Int32) : kq_I l E yX8_nights wsX8_nights rmX8_nights [.ref m_, .int a0] L σ (fun r _ _ => r = (-1000002)) := by
  have hF0 := hF
  obtain ⟨la, mn, it, sp, tp, nw, dr, tr, pa, im, kp, me, tc, fl, hL_m_, hS_m_, hL_la, hS_la, hL_mn, hS_mn, hL_it, hS_it, hL_tp, hS_tp, hL_nw, hS_nw, hL_dr, hS_dr, hL_kp, hS_kp, hlm, hfl⟩ := hF
  refine kq_enterI (cc := cX8_nights) (maxL := 3) (ret := (some .int)) (by decide) rfl (Nat.le_of_ble_eq_true rfl) rfl ?_
  intro p e s m below meth c A ls C hK hw hl
  obtain ⟨hx, hb, hml, hown, hts, hr, hlocks, hnm⟩ := C
  have hown : s.vm.findClass RX8 = some m.cls := hown
  have hl : lv_has ls 3 [(0, .ref m_), (1, .int a0)] := hl
  refine lv_aload_n hx hb dX8_nights_0 rfl (lv_at hl 0 rfl) ?_
  refine kq_callI (As := []) (rest := []) (n := 0) (q := (RX8, TX8, 23)) (ci := 8) (mc := 0) (ms := 0) ⟨hx, hb, hml, hown, hts⟩ (c_X8_isGate l E L σ hF0) gX8_nights_X8_isGate rfl (by decide +kernel) ⟨Nat.le_of_ble_eq_true rfl, Nat.le_of_ble_eq_true rfl⟩ hK hw hL_m_ hS_m_ rfl rfl hl.1 rfl (Nat.le_of_ble_eq_true rfl) dX8_nights_1 rfl rfl ⟨Nat.le_of_ble_eq_true rfl, Nat.le_of_ble_eq_true rfl⟩ (fun r1 Lv σv H locs hp hw => ?_)
  obtain ⟨er1, rfl, rfl⟩ := hp
  have er1 : r1 = 0 := er1
  subst er1
  refine lv_if_ne (tgt := 10) hx hb dX8_nights_4 (by decide) (fun c2 => ?_) (fun c2 => ?_)
  · skip
    exact absurd c2 (by decide)
  · skip
    refine lv_ldc (v := (-1000002)) hx hb hown (hts (.constant RX8 183 (-1000002)) (by decide +kernel)) dX8_nights_7 ?_
    exact kq_iret hx hb hr hlocks hw (Nat.le_of_ble_eq_true rfl) (Nat.le_of_ble_eq_true rfl) dX8_nights_9 rfl
abbrev rmX8_say : Room := { frames := 2, cells := 0, slots := 0, locals := 43 }
set_option maxHeartbeats 4000000 in
set_option maxRecDepth 100000 in
theorem f_X8_say (l : Launch) (E : kq_T) (L : List Nat) (σ : Nat → va_E) {m_ : Nat} (hF : fr_M E L σ m_) (a0 a1 : Int32) : kq_I l E yX8_say wsX8_say rmX8_say [.ref m_, .int a0, .int a1] L σ (fun r _ _ => r = (-1000001)) := by
  have hF0 := hF
  obtain ⟨la, mn, it, sp, tp, nw, dr, tr, pa, im, kp, me, tc, fl, hL_m_, hS_m_, hL_la, hS_la, hL_mn, hS_mn, hL_it, hS_it, hL_tp, hS_tp, hL_nw, hS_nw, hL_dr, hS_dr, hL_kp, hS_kp, hlm, hfl⟩ := hF
  refine kq_enterI (cc := cX8_say) (maxL := 6) (ret := (some .int)) (by decide) rfl (Nat.le_of_ble_eq_true rfl) rfl ?_
  intro p e s m below meth c A ls C hK hw hl
  obtain ⟨hx, hb, hml, hown, hts, hr, hlocks, hnm⟩ := C
  have hown : s.vm.findClass RX8 = some m.cls := hown
  have hl : lv_has ls 6 [(0, .ref m_), (1, .int a0), (2, .int a1)] := hl
  refine lv_aload_n hx hb dX8_say_0 rfl (lv_at hl 0 rfl) ?_
  refine lv_iload_n hx hb dX8_say_1 rfl (lv_at hl 1 rfl) ?_
  refine kq_callI (As := [.int a0]) (rest := []) (n := 1) (q := (RX8, TX8, 23)) (ci := 8) (mc := 0) (ms := 0) ⟨hx, hb, hml, hown, hts⟩ (c_X8_isWord l E L σ hF0 a0) gX8_say_X8_isWord rfl (by decide +kernel) ⟨Nat.le_of_ble_eq_true rfl, Nat.le_of_ble_eq_true rfl⟩ hK hw hL_m_ hS_m_ rfl rfl hl.1 rfl (Nat.le_of_ble_eq_true rfl) dX8_say_2 rfl rfl ⟨Nat.le_of_ble_eq_true rfl, Nat.le_of_ble_eq_true rfl⟩ (fun r1 Lv σv H locs hp hw => ?_)
  obtain ⟨er1, rfl, rfl⟩ := hp
  have er1 : r1 = 0 := er1
  subst er1
  refine lv_if_eq (tgt := 15) hx hb dX8_say_5 (by decide) (fun c2 => ?_) (fun c2 => ?_)
  · skip
    refine lv_ldc (v := (-1000001)) hx hb hown (hts (.constant RX8 64 (-1000001)) (by decide +kernel)) dX8_say_15 ?_
    exact kq_iret hx hb hr hlocks hw (Nat.le_of_ble_eq_true rfl) (Nat.le_of_ble_eq_true rfl) dX8_say_17 rfl
  · skip
    exact absurd (by decide) c2
abbrev rmX8_start : Room := { frames := 1, cells := 0, slots := 0, locals := 20 }
set_option maxHeartbeats 4000000 in
set_option maxRecDepth 100000 in
theorem f_X8_start (l : Launch) (E : kq_T) (L : List Nat) (σ : Nat → va_E) {m_ : Nat} (hF : fr_M E L σ m_) (a0 : Int32) : kq_I l E yX8_start wsX8_start rmX8_start [.ref m_, .int a0] L σ (fun r _ _ => r = (-1000002)) := by
  have hF0 := hF
  obtain ⟨la, mn, it, sp, tp, nw, dr, tr, pa, im, kp, me, tc, fl, hL_m_, hS_m_, hL_la, hS_la, hL_mn, hS_mn, hL_it, hS_it, hL_tp, hS_tp, hL_nw, hS_nw, hL_dr, hS_dr, hL_kp, hS_kp, hlm, hfl⟩ := hF
  refine kq_enterI (cc := cX8_start) (maxL := 3) (ret := (some .int)) (by decide) rfl (Nat.le_of_ble_eq_true rfl) rfl ?_
  intro p e s m below meth c A ls C hK hw hl
  obtain ⟨hx, hb, hml, hown, hts, hr, hlocks, hnm⟩ := C
  have hown : s.vm.findClass RX8 = some m.cls := hown
  have hl : lv_has ls 3 [(0, .ref m_), (1, .int a0)] := hl
  refine lv_aload_n hx hb dX8_start_0 rfl (lv_at hl 0 rfl) ?_
  refine kq_callI (As := []) (rest := []) (n := 0) (q := (RX8, TX8, 23)) (ci := 8) (mc := 0) (ms := 0) ⟨hx, hb, hml, hown, hts⟩ (c_X8_isGate l E L σ hF0) gX8_start_X8_isGate rfl (by decide +kernel) ⟨Nat.le_of_ble_eq_true rfl, Nat.le_of_ble_eq_true rfl⟩ hK hw hL_m_ hS_m_ rfl rfl hl.1 rfl (Nat.le_of_ble_eq_true rfl) dX8_start_1 rfl rfl ⟨Nat.le_of_ble_eq_true rfl, Nat.le_of_ble_eq_true rfl⟩ (fun r1 Lv σv H locs hp hw => ?_)
  obtain ⟨er1, rfl, rfl⟩ := hp
  have er1 : r1 = 0 := er1
  subst er1
  refine lv_if_ne (tgt := 10) hx hb dX8_start_4 (by decide) (fun c2 => ?_) (fun c2 => ?_)
  · skip
    exact absurd c2 (by decide)
  · skip
    refine lv_ldc (v := (-1000002)) hx hb hown (hts (.constant RX8 183 (-1000002)) (by decide +kernel)) dX8_start_7 ?_
    exact kq_iret hx hb hr hlocks hw (Nat.le_of_ble_eq_true rfl) (Nat.le_of_ble_eq_true rfl) dX8_start_9 rfl
abbrev rmX8_dismiss : Room := { frames := 2, cells := 0, slots := 0, locals := 43 }
set_option maxHeartbeats 4000000 in
set_option maxRecDepth 100000 in
theorem f_X8_dismiss (l : Launch) (E : kq_T) (L : List Nat) (σ : Nat → va_E) {m_ : Nat} (hF : fr_M E L σ m_) (a0 a1 : Int32) : kq_I l E yX8_dismiss wsX8_dismiss rmX8_dismiss [.ref m_, .int a0, .int a1] L σ (fun r _ _ => r = (-1000001)) := by
  have hF0 := hF
  obtain ⟨la, mn, it, sp, tp, nw, dr, tr, pa, im, kp, me, tc, fl, hL_m_, hS_m_, hL_la, hS_la, hL_mn, hS_mn, hL_it, hS_it, hL_tp, hS_tp, hL_nw, hS_nw, hL_dr, hS_dr, hL_kp, hS_kp, hlm, hfl⟩ := hF
  refine kq_enterI (cc := cX8_dismiss) (maxL := 3) (ret := (some .int)) (by decide) rfl (Nat.le_of_ble_eq_true rfl) rfl ?_
  intro p e s m below meth c A ls C hK hw hl
  obtain ⟨hx, hb, hml, hown, hts, hr, hlocks, hnm⟩ := C
  have hown : s.vm.findClass RX8 = some m.cls := hown
  have hl : lv_has ls 3 [(0, .ref m_), (1, .int a0), (2, .int a1)] := hl
  refine lv_aload_n hx hb dX8_dismiss_0 rfl (lv_at hl 0 rfl) ?_
  refine lv_iload_n hx hb dX8_dismiss_1 rfl (lv_at hl 1 rfl) ?_
  refine kq_callI (As := [.int a0]) (rest := []) (n := 1) (q := (RX8, TX8, 23)) (ci := 8) (mc := 0) (ms := 0) ⟨hx, hb, hml, hown, hts⟩ (c_X8_isGuard l E L σ hF0 a0) gX8_dismiss_X8_isGuard rfl (by decide +kernel) ⟨Nat.le_of_ble_eq_true rfl, Nat.le_of_ble_eq_true rfl⟩ hK hw hL_m_ hS_m_ rfl rfl hl.1 rfl (Nat.le_of_ble_eq_true rfl) dX8_dismiss_2 rfl rfl ⟨Nat.le_of_ble_eq_true rfl, Nat.le_of_ble_eq_true rfl⟩ (fun r1 Lv σv H locs hp hw => ?_)
  obtain ⟨er1, rfl, rfl⟩ := hp
  have er1 : r1 = 0 := er1
  subst er1
  refine lv_if_eq (tgt := 17) hx hb dX8_dismiss_5 (by decide) (fun c2 => ?_) (fun c2 => ?_)
  · skip
    refine lv_ldc (v := (-1000001)) hx hb hown (hts (.constant RX8 64 (-1000001)) (by decide +kernel)) dX8_dismiss_17 ?_
    exact kq_iret hx hb hr hlocks hw (Nat.le_of_ble_eq_true rfl) (Nat.le_of_ble_eq_true rfl) dX8_dismiss_19 rfl
  · skip
    exact absurd (by decide) c2
abbrev rmX8_letter : Room := { frames := 2, cells := 0, slots := 0, locals := 43 }
set_option maxHeartbeats 4000000 in
set_option maxRecDepth 100000 in
theorem f_X8_letter (l : Launch) (E : kq_T) (L : List Nat) (σ : Nat → va_E) {m_ : Nat} (hF : fr_M E L σ m_) (a0 a1 : Int32) : kq_I l E yX8_letter wsX8_letter rmX8_letter [.ref m_, .int a0, .int a1] L σ (fun r _ _ => r = (-1000001)) := by
  have hF0 := hF
  obtain ⟨la, mn, it, sp, tp, nw, dr, tr, pa, im, kp, me, tc, fl, hL_m_, hS_m_, hL_la, hS_la, hL_mn, hS_mn, hL_it, hS_it, hL_tp, hS_tp, hL_nw, hS_nw, hL_dr, hS_dr, hL_kp, hS_kp, hlm, hfl⟩ := hF
  refine kq_enterI (cc := cX8_letter) (maxL := 3) (ret := (some .int)) (by decide) rfl (Nat.le_of_ble_eq_true rfl) rfl ?_
  intro p e s m below meth c A ls C hK hw hl
  obtain ⟨hx, hb, hml, hown, hts, hr, hlocks, hnm⟩ := C
  have hown : s.vm.findClass RX8 = some m.cls := hown
  have hl : lv_has ls 3 [(0, .ref m_), (1, .int a0), (2, .int a1)] := hl
  refine lv_aload_n hx hb dX8_letter_0 rfl (lv_at hl 0 rfl) ?_
  refine lv_iload_n hx hb dX8_letter_1 rfl (lv_at hl 1 rfl) ?_
  refine kq_callI (As := [.int a0]) (rest := []) (n := 1) (q := (RX8, TX8, 23)) (ci := 8) (mc := 0) (ms := 0) ⟨hx, hb, hml, hown, hts⟩ (c_X8_isWord l E L σ hF0 a0) gX8_letter_X8_isWord rfl (by decide +kernel) ⟨Nat.le_of_ble_eq_true rfl, Nat.le_of_ble_eq_true rfl⟩ hK hw hL_m_ hS_m_ rfl rfl hl.1 rfl (Nat.le_of_ble_eq_true rfl) dX8_letter_2 rfl rfl ⟨Nat.le_of_ble_eq_true rfl, Nat.le_of_ble_eq_true rfl⟩ (fun r1 Lv σv H locs hp hw => ?_)
  obtain ⟨er1, rfl, rfl⟩ := hp
  have er1 : r1 = 0 := er1
  subst er1
  refine lv_if_eq (tgt := 33) hx hb dX8_letter_5 (by decide) (fun c2 => ?_) (fun c2 => ?_)
  · skip
    refine lv_ldc (v := (-1000001)) hx hb hown (hts (.constant RX8 64 (-1000001)) (by decide +kernel)) dX8_letter_33 ?_
    exact kq_iret hx hb hr hlocks hw (Nat.le_of_ble_eq_true rfl) (Nat.le_of_ble_eq_true rfl) dX8_letter_35 rfl
  · skip
    exact absurd (by decide) c2
abbrev rmX8_like : Room := { frames := 2, cells := 0, slots := 0, locals := 43 }
set_option maxHeartbeats 4000000 in
set_option maxRecDepth 100000 in
theorem f_X8_like (l : Launch) (E : kq_T) (L : List Nat) (σ : Nat → va_E) {m_ : Nat} (hF : fr_M E L σ m_) (a0 a1 a2 : Int32) : kq_I l E yX8_like wsX8_like rmX8_like [.ref m_, .int a0, .int a1, .int a2] L σ (fun r _ _ => r = (-1000001)) := by
  have hF0 := hF
  obtain ⟨la, mn, it, sp, tp, nw, dr, tr, pa, im, kp, me, tc, fl, hL_m_, hS_m_, hL_la, hS_la, hL_mn, hS_mn, hL_it, hS_it, hL_tp, hS_tp, hL_nw, hS_nw, hL_dr, hS_dr, hL_kp, hS_kp, hlm, hfl⟩ := hF
  refine kq_enterI (cc := cX8_like) (maxL := 4) (ret := (some .int)) (by decide) rfl (Nat.le_of_ble_eq_true rfl) rfl ?_
  intro p e s m below meth c A ls C hK hw hl
  obtain ⟨hx, hb, hml, hown, hts, hr, hlocks, hnm⟩ := C
  have hown : s.vm.findClass RX8 = some m.cls := hown
  have hl : lv_has ls 4 [(0, .ref m_), (1, .int a0), (2, .int a1), (3, .int a2)] := hl
  refine lv_aload_n hx hb dX8_like_0 rfl (lv_at hl 0 rfl) ?_
  refine lv_iload_n hx hb dX8_like_1 rfl (lv_at hl 1 rfl) ?_
  refine kq_callI (As := [.int a0]) (rest := []) (n := 1) (q := (RX8, TX8, 23)) (ci := 8) (mc := 0) (ms := 0) ⟨hx, hb, hml, hown, hts⟩ (c_X8_isWord l E L σ hF0 a0) gX8_like_X8_isWord rfl (by decide +kernel) ⟨Nat.le_of_ble_eq_true rfl, Nat.le_of_ble_eq_true rfl⟩ hK hw hL_m_ hS_m_ rfl rfl hl.1 rfl (Nat.le_of_ble_eq_true rfl) dX8_like_2 rfl rfl ⟨Nat.le_of_ble_eq_true rfl, Nat.le_of_ble_eq_true rfl⟩ (fun r1 Lv σv H locs hp hw => ?_)
  obtain ⟨er1, rfl, rfl⟩ := hp
  have er1 : r1 = 0 := er1
  subst er1
  refine lv_if_eq (tgt := 25) hx hb dX8_like_5 (by decide) (fun c2 => ?_) (fun c2 => ?_)
  · skip
    refine lv_ldc (v := (-1000001)) hx hb hown (hts (.constant RX8 64 (-1000001)) (by decide +kernel)) dX8_like_25 ?_
    exact kq_iret hx hb hr hlocks hw (Nat.le_of_ble_eq_true rfl) (Nat.le_of_ble_eq_true rfl) dX8_like_27 rfl
  · skip
    exact absurd (by decide) c2
abbrev rmX8_guard : Room := { frames := 2, cells := 0, slots := 0, locals := 43 }
set_option maxHeartbeats 4000000 in
set_option maxRecDepth 100000 in
theorem f_X8_guard (l : Launch) (E : kq_T) (L : List Nat) (σ : Nat → va_E) {m_ : Nat} (hF : fr_M E L σ m_) (a0 a1 : Int32) : kq_I l E yX8_guard wsX8_guard rmX8_guard [.ref m_, .int a0, .int a1] L σ (fun r _ _ => r = (-1000001)) := by
  have hF0 := hF
  obtain ⟨la, mn, it, sp, tp, nw, dr, tr, pa, im, kp, me, tc, fl, hL_m_, hS_m_, hL_la, hS_la, hL_mn, hS_mn, hL_it, hS_it, hL_tp, hS_tp, hL_nw, hS_nw, hL_dr, hS_dr, hL_kp, hS_kp, hlm, hfl⟩ := hF
  refine kq_enterI (cc := cX8_guard) (maxL := 3) (ret := (some .int)) (by decide) rfl (Nat.le_of_ble_eq_true rfl) rfl ?_
  intro p e s m below meth c A ls C hK hw hl
  obtain ⟨hx, hb, hml, hown, hts, hr, hlocks, hnm⟩ := C
  have hown : s.vm.findClass RX8 = some m.cls := hown
  have hl : lv_has ls 3 [(0, .ref m_), (1, .int a0), (2, .int a1)] := hl
  refine lv_aload_n hx hb dX8_guard_0 rfl (lv_at hl 0 rfl) ?_
  refine lv_iload_n hx hb dX8_guard_1 rfl (lv_at hl 1 rfl) ?_
  refine kq_callI (As := [.int a0]) (rest := []) (n := 1) (q := (RX8, TX8, 23)) (ci := 8) (mc := 0) (ms := 0) ⟨hx, hb, hml, hown, hts⟩ (c_X8_isGuard l E L σ hF0 a0) gX8_guard_X8_isGuard rfl (by decide +kernel) ⟨Nat.le_of_ble_eq_true rfl, Nat.le_of_ble_eq_true rfl⟩ hK hw hL_m_ hS_m_ rfl rfl hl.1 rfl (Nat.le_of_ble_eq_true rfl) dX8_guard_2 rfl rfl ⟨Nat.le_of_ble_eq_true rfl, Nat.le_of_ble_eq_true rfl⟩ (fun r1 Lv σv H locs hp hw => ?_)
  obtain ⟨er1, rfl, rfl⟩ := hp
  have er1 : r1 = 0 := er1
  subst er1
  refine lv_if_ne (tgt := 11) hx hb dX8_guard_5 (by decide) (fun c2 => ?_) (fun c2 => ?_)
  · skip
    exact absurd c2 (by decide)
  · skip
    refine lv_ldc (v := (-1000001)) hx hb hown (hts (.constant RX8 64 (-1000001)) (by decide +kernel)) dX8_guard_8 ?_
    exact kq_iret hx hb hr hlocks hw (Nat.le_of_ble_eq_true rfl) (Nat.le_of_ble_eq_true rfl) dX8_guard_10 rfl
abbrev rmX8_secret : Room := { frames := 1, cells := 0, slots := 0, locals := 20 }
set_option maxHeartbeats 4000000 in
set_option maxRecDepth 100000 in
theorem f_X8_secret (l : Launch) (E : kq_T) (L : List Nat) (σ : Nat → va_E) {m_ : Nat} (hF : fr_M E L σ m_) (a0 : Int32) : kq_I l E yX8_secret wsX8_secret rmX8_secret [.ref m_, .int a0] L σ (fun r _ _ => r = (-1000002)) := by
  have hF0 := hF
  obtain ⟨la, mn, it, sp, tp, nw, dr, tr, pa, im, kp, me, tc, fl, hL_m_, hS_m_, hL_la, hS_la, hL_mn, hS_mn, hL_it, hS_it, hL_tp, hS_tp, hL_nw, hS_nw, hL_dr, hS_dr, hL_kp, hS_kp, hlm, hfl⟩ := hF
  refine kq_enterI (cc := cX8_secret) (maxL := 2) (ret := (some .int)) (by decide) rfl (Nat.le_of_ble_eq_true rfl) rfl ?_
  intro p e s m below meth c A ls C hK hw hl
  obtain ⟨hx, hb, hml, hown, hts, hr, hlocks, hnm⟩ := C
  have hown : s.vm.findClass RX8 = some m.cls := hown
  have hl : lv_has ls 2 [(0, .ref m_), (1, .int a0)] := hl
  refine lv_aload_n hx hb dX8_secret_0 rfl (lv_at hl 0 rfl) ?_
  refine kq_callI (As := []) (rest := []) (n := 0) (q := (RX8, TX8, 23)) (ci := 8) (mc := 0) (ms := 0) ⟨hx, hb, hml, hown, hts⟩ (c_X8_isGate l E L σ hF0) gX8_secret_X8_isGate rfl (by decide +kernel) ⟨Nat.le_of_ble_eq_true rfl, Nat.le_of_ble_eq_true rfl⟩ hK hw hL_m_ hS_m_ rfl rfl hl.1 rfl (Nat.le_of_ble_eq_true rfl) dX8_secret_1 rfl rfl ⟨Nat.le_of_ble_eq_true rfl, Nat.le_of_ble_eq_true rfl⟩ (fun r1 Lv σv H locs hp hw => ?_)
  obtain ⟨er1, rfl, rfl⟩ := hp
  have er1 : r1 = 0 := er1
  subst er1
  refine lv_if_ne (tgt := 10) hx hb dX8_secret_4 (by decide) (fun c2 => ?_) (fun c2 => ?_)
  · skip
    exact absurd c2 (by decide)
  · skip
    refine lv_ldc (v := (-1000002)) hx hb hown (hts (.constant RX8 183 (-1000002)) (by decide +kernel)) dX8_secret_7 ?_
    exact kq_iret hx hb hr hlocks hw (Nat.le_of_ble_eq_true rfl) (Nat.le_of_ble_eq_true rfl) dX8_secret_9 rfl
abbrev rmX8_taken : Room := { frames := 2, cells := 0, slots := 0, locals := 43 }
set_option maxHeartbeats 4000000 in
set_option maxRecDepth 100000 in
theorem f_X8_taken (l : Launch) (E : kq_T) (L : List Nat) (σ : Nat → va_E) {m_ : Nat} (hF : fr_M E L σ m_) (a0 a1 a2 : Int32) : kq_I l E yX8_taken wsX8_taken rmX8_taken [.ref m_, .int a0, .int a1, .int a2] L σ (fun r _ _ => r = (-1000001)) := by
  have hF0 := hF
  obtain ⟨la, mn, it, sp, tp, nw, dr, tr, pa, im, kp, me, tc, fl, hL_m_, hS_m_, hL_la, hS_la, hL_mn, hS_mn, hL_it, hS_it, hL_tp, hS_tp, hL_nw, hS_nw, hL_dr, hS_dr, hL_kp, hS_kp, hlm, hfl⟩ := hF
  refine kq_enterI (cc := cX8_taken) (maxL := 4) (ret := (some .int)) (by decide) rfl (Nat.le_of_ble_eq_true rfl) rfl ?_
  intro p e s m below meth c A ls C hK hw hl
  obtain ⟨hx, hb, hml, hown, hts, hr, hlocks, hnm⟩ := C
  have hown : s.vm.findClass RX8 = some m.cls := hown
  have hl : lv_has ls 4 [(0, .ref m_), (1, .int a0), (2, .int a1), (3, .int a2)] := hl
  refine lv_aload_n hx hb dX8_taken_0 rfl (lv_at hl 0 rfl) ?_
  refine lv_iload_n hx hb dX8_taken_1 rfl (lv_at hl 1 rfl) ?_
  refine kq_callI (As := [.int a0]) (rest := []) (n := 1) (q := (RX8, TX8, 23)) (ci := 8) (mc := 0) (ms := 0) ⟨hx, hb, hml, hown, hts⟩ (c_X8_isWord l E L σ hF0 a0) gX8_taken_X8_isWord rfl (by decide +kernel) ⟨Nat.le_of_ble_eq_true rfl, Nat.le_of_ble_eq_true rfl⟩ hK hw hL_m_ hS_m_ rfl rfl hl.1 rfl (Nat.le_of_ble_eq_true rfl) dX8_taken_2 rfl rfl ⟨Nat.le_of_ble_eq_true rfl, Nat.le_of_ble_eq_true rfl⟩ (fun r1 Lv σv H locs hp hw => ?_)
  obtain ⟨er1, rfl, rfl⟩ := hp
  have er1 : r1 = 0 := er1
  subst er1
  refine lv_if_eq (tgt := 22) hx hb dX8_taken_5 (by decide) (fun c2 => ?_) (fun c2 => ?_)
  · skip
    refine lv_ldc (v := (-1000001)) hx hb hown (hts (.constant RX8 64 (-1000001)) (by decide +kernel)) dX8_taken_22 ?_
    exact kq_iret hx hb hr hlocks hw (Nat.le_of_ble_eq_true rfl) (Nat.le_of_ble_eq_true rfl) dX8_taken_24 rfl
  · skip
    exact absurd (by decide) c2
abbrev rmX8_safe : Room := { frames := 1, cells := 0, slots := 0, locals := 20 }
set_option maxHeartbeats 4000000 in
set_option maxRecDepth 100000 in
theorem f_X8_safe (l : Launch) (E : kq_T) (L : List Nat) (σ : Nat → va_E) {m_ : Nat} (hF : fr_M E L σ m_) (a0 a1 : Int32) : kq_I l E yX8_safe wsX8_safe rmX8_safe [.ref m_, .int a0, .int a1] L σ (fun r _ _ => r = (-1000002)) := by
  have hF0 := hF
  obtain ⟨la, mn, it, sp, tp, nw, dr, tr, pa, im, kp, me, tc, fl, hL_m_, hS_m_, hL_la, hS_la, hL_mn, hS_mn, hL_it, hS_it, hL_tp, hS_tp, hL_nw, hS_nw, hL_dr, hS_dr, hL_kp, hS_kp, hlm, hfl⟩ := hF
  refine kq_enterI (cc := cX8_safe) (maxL := 5) (ret := (some .int)) (by decide) rfl (Nat.le_of_ble_eq_true rfl) rfl ?_
  intro p e s m below meth c A ls C hK hw hl
  obtain ⟨hx, hb, hml, hown, hts, hr, hlocks, hnm⟩ := C
  have hown : s.vm.findClass RX8 = some m.cls := hown
  have hl : lv_has ls 5 [(0, .ref m_), (1, .int a0), (2, .int a1)] := hl
  refine lv_aload_n hx hb dX8_safe_0 rfl (lv_at hl 0 rfl) ?_
  refine kq_callI (As := []) (rest := []) (n := 0) (q := (RX8, TX8, 23)) (ci := 8) (mc := 0) (ms := 0) ⟨hx, hb, hml, hown, hts⟩ (c_X8_isGate l E L σ hF0) gX8_safe_X8_isGate rfl (by decide +kernel) ⟨Nat.le_of_ble_eq_true rfl, Nat.le_of_ble_eq_true rfl⟩ hK hw hL_m_ hS_m_ rfl rfl hl.1 rfl (Nat.le_of_ble_eq_true rfl) dX8_safe_1 rfl rfl ⟨Nat.le_of_ble_eq_true rfl, Nat.le_of_ble_eq_true rfl⟩ (fun r1 Lv σv H locs hp hw => ?_)
  obtain ⟨er1, rfl, rfl⟩ := hp
  have er1 : r1 = 0 := er1
  subst er1
  refine lv_if_ne (tgt := 10) hx hb dX8_safe_4 (by decide) (fun c2 => ?_) (fun c2 => ?_)
  · skip
    exact absurd c2 (by decide)
  · skip
    refine lv_ldc (v := (-1000002)) hx hb hown (hts (.constant RX8 183 (-1000002)) (by decide +kernel)) dX8_safe_7 ?_
    exact kq_iret hx hb hr hlocks hw (Nat.le_of_ble_eq_true rfl) (Nat.le_of_ble_eq_true rfl) dX8_safe_9 rfl
abbrev rmX8_open : Room := { frames := 1, cells := 0, slots := 0, locals := 20 }
set_option maxHeartbeats 4000000 in
set_option maxRecDepth 100000 in
theorem f_X8_open (l : Launch) (E : kq_T) (L : List Nat) (σ : Nat → va_E) {m_ : Nat} (hF : fr_M E L σ m_) (a0 a1 : Int32) : kq_I l E yX8_open wsX8_open rmX8_open [.ref m_, .int a0, .int a1] L σ (fun r _ _ => r = (-1000002)) := by
  have hF0 := hF
  obtain ⟨la, mn, it, sp, tp, nw, dr, tr, pa, im, kp, me, tc, fl, hL_m_, hS_m_, hL_la, hS_la, hL_mn, hS_mn, hL_it, hS_it, hL_tp, hS_tp, hL_nw, hS_nw, hL_dr, hS_dr, hL_kp, hS_kp, hlm, hfl⟩ := hF
  refine kq_enterI (cc := cX8_open) (maxL := 5) (ret := (some .int)) (by decide) rfl (Nat.le_of_ble_eq_true rfl) rfl ?_
  intro p e s m below meth c A ls C hK hw hl
  obtain ⟨hx, hb, hml, hown, hts, hr, hlocks, hnm⟩ := C
  have hown : s.vm.findClass RX8 = some m.cls := hown
  have hl : lv_has ls 5 [(0, .ref m_), (1, .int a0), (2, .int a1)] := hl
  refine lv_aload_n hx hb dX8_open_0 rfl (lv_at hl 0 rfl) ?_
  refine kq_callI (As := []) (rest := []) (n := 0) (q := (RX8, TX8, 23)) (ci := 8) (mc := 0) (ms := 0) ⟨hx, hb, hml, hown, hts⟩ (c_X8_isGate l E L σ hF0) gX8_open_X8_isGate rfl (by decide +kernel) ⟨Nat.le_of_ble_eq_true rfl, Nat.le_of_ble_eq_true rfl⟩ hK hw hL_m_ hS_m_ rfl rfl hl.1 rfl (Nat.le_of_ble_eq_true rfl) dX8_open_1 rfl rfl ⟨Nat.le_of_ble_eq_true rfl, Nat.le_of_ble_eq_true rfl⟩ (fun r1 Lv σv H locs hp hw => ?_)
  obtain ⟨er1, rfl, rfl⟩ := hp
  have er1 : r1 = 0 := er1
  subst er1
  refine lv_if_ne (tgt := 10) hx hb dX8_open_4 (by decide) (fun c2 => ?_) (fun c2 => ?_)
  · skip
    exact absurd c2 (by decide)
  · skip
    refine lv_ldc (v := (-1000002)) hx hb hown (hts (.constant RX8 183 (-1000002)) (by decide +kernel)) dX8_open_7 ?_
    exact kq_iret hx hb hr hlocks hw (Nat.le_of_ble_eq_true rfl) (Nat.le_of_ble_eq_true rfl) dX8_open_9 rfl
abbrev rmX8_next : Room := { frames := 2, cells := 0, slots := 0, locals := 43 }
set_option maxHeartbeats 4000000 in
set_option maxRecDepth 100000 in
theorem f_X8_next (l : Launch) (E : kq_T) (L : List Nat) (σ : Nat → va_E) {m_ : Nat} (hF : fr_M E L σ m_) (a0 : Int32) : kq_I l E yX8_next wsX8_next rmX8_next [.ref m_, .int a0] L σ (fun r _ _ => r = (-1000001)) := by
  have hF0 := hF
  obtain ⟨la, mn, it, sp, tp, nw, dr, tr, pa, im, kp, me, tc, fl, hL_m_, hS_m_, hL_la, hS_la, hL_mn, hS_mn, hL_it, hS_it, hL_tp, hS_tp, hL_nw, hS_nw, hL_dr, hS_dr, hL_kp, hS_kp, hlm, hfl⟩ := hF
  refine kq_enterI (cc := cX8_next) (maxL := 3) (ret := (some .int)) (by decide) rfl (Nat.le_of_ble_eq_true rfl) rfl ?_
  intro p e s m below meth c A ls C hK hw hl
  obtain ⟨hx, hb, hml, hown, hts, hr, hlocks, hnm⟩ := C
  have hown : s.vm.findClass RX8 = some m.cls := hown
  have hl : lv_has ls 3 [(0, .ref m_), (1, .int a0)] := hl
  refine lv_aload_n hx hb dX8_next_0 rfl (lv_at hl 0 rfl) ?_
  refine lv_iload_n hx hb dX8_next_1 rfl (lv_at hl 1 rfl) ?_
  refine kq_callI (As := [.int a0]) (rest := []) (n := 1) (q := (RX8, TX8, 23)) (ci := 8) (mc := 0) (ms := 0) ⟨hx, hb, hml, hown, hts⟩ (c_X8_isWord l E L σ hF0 a0) gX8_next_X8_isWord rfl (by decide +kernel) ⟨Nat.le_of_ble_eq_true rfl, Nat.le_of_ble_eq_true rfl⟩ hK hw hL_m_ hS_m_ rfl rfl hl.1 rfl (Nat.le_of_ble_eq_true rfl) dX8_next_2 rfl rfl ⟨Nat.le_of_ble_eq_true rfl, Nat.le_of_ble_eq_true rfl⟩ (fun r1 Lv σv H locs hp hw => ?_)
  obtain ⟨er1, rfl, rfl⟩ := hp
  have er1 : r1 = 0 := er1
  subst er1
  refine lv_if_ne (tgt := 11) hx hb dX8_next_5 (by decide) (fun c2 => ?_) (fun c2 => ?_)
  · skip
    exact absurd c2 (by decide)
  · skip
    refine lv_ldc (v := (-1000001)) hx hb hown (hts (.constant RX8 64 (-1000001)) (by decide +kernel)) dX8_next_8 ?_
    exact kq_iret hx hb hr hlocks hw (Nat.le_of_ble_eq_true rfl) (Nat.le_of_ble_eq_true rfl) dX8_next_10 rfl
abbrev rmX8_agree : Room := { frames := 1, cells := 0, slots := 0, locals := 20 }
set_option maxHeartbeats 4000000 in
set_option maxRecDepth 100000 in
theorem f_X8_agree (l : Launch) (E : kq_T) (L : List Nat) (σ : Nat → va_E) {m_ : Nat} (hF : fr_M E L σ m_) : kq_I l E yX8_agree wsX8_agree rmX8_agree [.ref m_] L σ (fun r _ _ => r = (-1000002)) := by
  have hF0 := hF
  obtain ⟨la, mn, it, sp, tp, nw, dr, tr, pa, im, kp, me, tc, fl, hL_m_, hS_m_, hL_la, hS_la, hL_mn, hS_mn, hL_it, hS_it, hL_tp, hS_tp, hL_nw, hS_nw, hL_dr, hS_dr, hL_kp, hS_kp, hlm, hfl⟩ := hF
  refine kq_enterI (cc := cX8_agree) (maxL := 1) (ret := (some .int)) (by decide) rfl (Nat.le_of_ble_eq_true rfl) rfl ?_
  intro p e s m below meth c A ls C hK hw hl
  obtain ⟨hx, hb, hml, hown, hts, hr, hlocks, hnm⟩ := C
  have hown : s.vm.findClass RX8 = some m.cls := hown
  have hl : lv_has ls 1 [(0, .ref m_)] := hl
  refine lv_aload_n hx hb dX8_agree_0 rfl (lv_at hl 0 rfl) ?_
  refine kq_callI (As := []) (rest := []) (n := 0) (q := (RX8, TX8, 23)) (ci := 8) (mc := 0) (ms := 0) ⟨hx, hb, hml, hown, hts⟩ (c_X8_isGate l E L σ hF0) gX8_agree_X8_isGate rfl (by decide +kernel) ⟨Nat.le_of_ble_eq_true rfl, Nat.le_of_ble_eq_true rfl⟩ hK hw hL_m_ hS_m_ rfl rfl hl.1 rfl (Nat.le_of_ble_eq_true rfl) dX8_agree_1 rfl rfl ⟨Nat.le_of_ble_eq_true rfl, Nat.le_of_ble_eq_true rfl⟩ (fun r1 Lv σv H locs hp hw => ?_)
  obtain ⟨er1, rfl, rfl⟩ := hp
  have er1 : r1 = 0 := er1
  subst er1
  refine lv_if_eq (tgt := 14) hx hb dX8_agree_4 (by decide) (fun c2 => ?_) (fun c2 => ?_)
  · skip
    refine lv_ldc (v := (-1000002)) hx hb hown (hts (.constant RX8 183 (-1000002)) (by decide +kernel)) dX8_agree_14 ?_
    exact kq_iret hx hb hr hlocks hw (Nat.le_of_ble_eq_true rfl) (Nat.le_of_ble_eq_true rfl) dX8_agree_16 rfl
  · skip
    exact absurd (by decide) c2
abbrev rmX8_man : Room := { frames := 1, cells := 0, slots := 0, locals := 20 }
set_option maxHeartbeats 4000000 in
set_option maxRecDepth 100000 in
theorem f_X8_man (l : Launch) (E : kq_T) (L : List Nat) (σ : Nat → va_E) {m_ : Nat} (hF : fr_M E L σ m_) (a0 : Int32) : kq_I l E yX8_man wsX8_man rmX8_man [.ref m_, .int a0] L σ (fun r _ _ => r = (-1000002)) := by
  have hF0 := hF
  obtain ⟨la, mn, it, sp, tp, nw, dr, tr, pa, im, kp, me, tc, fl, hL_m_, hS_m_, hL_la, hS_la, hL_mn, hS_mn, hL_it, hS_it, hL_tp, hS_tp, hL_nw, hS_nw, hL_dr, hS_dr, hL_kp, hS_kp, hlm, hfl⟩ := hF
  refine kq_enterI (cc := cX8_man) (maxL := 11) (ret := (some .int)) (by decide) rfl (Nat.le_of_ble_eq_true rfl) rfl ?_
  intro p e s m below meth c A ls C hK hw hl
  obtain ⟨hx, hb, hml, hown, hts, hr, hlocks, hnm⟩ := C
  have hown : s.vm.findClass RX8 = some m.cls := hown
  have hl : lv_has ls 11 [(0, .ref m_), (1, .int a0)] := hl
  refine lv_aload_n hx hb dX8_man_0 rfl (lv_at hl 0 rfl) ?_
  refine kq_callI (As := []) (rest := []) (n := 0) (q := (RX8, TX8, 23)) (ci := 8) (mc := 0) (ms := 0) ⟨hx, hb, hml, hown, hts⟩ (c_X8_isGate l E L σ hF0) gX8_man_X8_isGate rfl (by decide +kernel) ⟨Nat.le_of_ble_eq_true rfl, Nat.le_of_ble_eq_true rfl⟩ hK hw hL_m_ hS_m_ rfl rfl hl.1 rfl (Nat.le_of_ble_eq_true rfl) dX8_man_1 rfl rfl ⟨Nat.le_of_ble_eq_true rfl, Nat.le_of_ble_eq_true rfl⟩ (fun r1 Lv σv H locs hp hw => ?_)
  obtain ⟨er1, rfl, rfl⟩ := hp
  have er1 : r1 = 0 := er1
  subst er1
  refine lv_if_ne (tgt := 10) hx hb dX8_man_4 (by decide) (fun c2 => ?_) (fun c2 => ?_)
  · skip
    exact absurd c2 (by decide)
  · skip
    refine lv_ldc (v := (-1000002)) hx hb hown (hts (.constant RX8 183 (-1000002)) (by decide +kernel)) dX8_man_7 ?_
    exact kq_iret hx hb hr hlocks hw (Nat.le_of_ble_eq_true rfl) (Nat.le_of_ble_eq_true rfl) dX8_man_9 rfl
abbrev rmX8_fewest : Room := { frames := 1, cells := 0, slots := 0, locals := 20 }
set_option maxHeartbeats 4000000 in
set_option maxRecDepth 100000 in
theorem f_X8_fewest (l : Launch) (E : kq_T) (L : List Nat) (σ : Nat → va_E) {m_ : Nat} (hF : fr_M E L σ m_) : kq_I l E yX8_fewest wsX8_fewest rmX8_fewest [.ref m_] L σ (fun r _ _ => r = (-1000002)) := by
  have hF0 := hF
  obtain ⟨la, mn, it, sp, tp, nw, dr, tr, pa, im, kp, me, tc, fl, hL_m_, hS_m_, hL_la, hS_la, hL_mn, hS_mn, hL_it, hS_it, hL_tp, hS_tp, hL_nw, hS_nw, hL_dr, hS_dr, hL_kp, hS_kp, hlm, hfl⟩ := hF
  refine kq_enterI (cc := cX8_fewest) (maxL := 3) (ret := (some .int)) (by decide) rfl (Nat.le_of_ble_eq_true rfl) rfl ?_
  intro p e s m below meth c A ls C hK hw hl
  obtain ⟨hx, hb, hml, hown, hts, hr, hlocks, hnm⟩ := C
  have hown : s.vm.findClass RX8 = some m.cls := hown
  have hl : lv_has ls 3 [(0, .ref m_)] := hl
  refine lv_aload_n hx hb dX8_fewest_0 rfl (lv_at hl 0 rfl) ?_
  refine kq_callI (As := []) (rest := []) (n := 0) (q := (RX8, TX8, 23)) (ci := 8) (mc := 0) (ms := 0) ⟨hx, hb, hml, hown, hts⟩ (c_X8_isGate l E L σ hF0) gX8_fewest_X8_isGate rfl (by decide +kernel) ⟨Nat.le_of_ble_eq_true rfl, Nat.le_of_ble_eq_true rfl⟩ hK hw hL_m_ hS_m_ rfl rfl hl.1 rfl (Nat.le_of_ble_eq_true rfl) dX8_fewest_1 rfl rfl ⟨Nat.le_of_ble_eq_true rfl, Nat.le_of_ble_eq_true rfl⟩ (fun r1 Lv σv H locs hp hw => ?_)
  obtain ⟨er1, rfl, rfl⟩ := hp
  have er1 : r1 = 0 := er1
  subst er1
  refine lv_if_ne (tgt := 10) hx hb dX8_fewest_4 (by decide) (fun c2 => ?_) (fun c2 => ?_)
  · skip
    exact absurd c2 (by decide)
  · skip
    refine lv_ldc (v := (-1000002)) hx hb hown (hts (.constant RX8 183 (-1000002)) (by decide +kernel)) dX8_fewest_7 ?_
    exact kq_iret hx hb hr hlocks hw (Nat.le_of_ble_eq_true rfl) (Nat.le_of_ble_eq_true rfl) dX8_fewest_9 rfl
abbrev rmX8_march : Room := { frames := 1, cells := 0, slots := 0, locals := 20 }
set_option maxHeartbeats 4000000 in
set_option maxRecDepth 100000 in
theorem f_X8_march (l : Launch) (E : kq_T) (L : List Nat) (σ : Nat → va_E) {m_ : Nat} (hF : fr_M E L σ m_) (a0 a1 a2 a3 : Int32) : kq_I l E yX8_march wsX8_march rmX8_march [.ref m_, .int a0, .int a1, .int a2, .int a3] L σ (fun r _ _ => r = (-1000002)) := by
  have hF0 := hF
  obtain ⟨la, mn, it, sp, tp, nw, dr, tr, pa, im, kp, me, tc, fl, hL_m_, hS_m_, hL_la, hS_la, hL_mn, hS_mn, hL_it, hS_it, hL_tp, hS_tp, hL_nw, hS_nw, hL_dr, hS_dr, hL_kp, hS_kp, hlm, hfl⟩ := hF
  refine kq_enterI (cc := cX8_march) (maxL := 9) (ret := (some .int)) (by decide) rfl (Nat.le_of_ble_eq_true rfl) rfl ?_
  intro p e s m below meth c A ls C hK hw hl
  obtain ⟨hx, hb, hml, hown, hts, hr, hlocks, hnm⟩ := C
  have hown : s.vm.findClass RX8 = some m.cls := hown
  have hl : lv_has ls 9 [(0, .ref m_), (1, .int a0), (2, .int a1), (3, .int a2), (4, .int a3)] := hl
  refine lv_aload_n hx hb dX8_march_0 rfl (lv_at hl 0 rfl) ?_
  refine kq_callI (As := []) (rest := []) (n := 0) (q := (RX8, TX8, 23)) (ci := 8) (mc := 0) (ms := 0) ⟨hx, hb, hml, hown, hts⟩ (c_X8_isGate l E L σ hF0) gX8_march_X8_isGate rfl (by decide +kernel) ⟨Nat.le_of_ble_eq_true rfl, Nat.le_of_ble_eq_true rfl⟩ hK hw hL_m_ hS_m_ rfl rfl hl.1 rfl (Nat.le_of_ble_eq_true rfl) dX8_march_1 rfl rfl ⟨Nat.le_of_ble_eq_true rfl, Nat.le_of_ble_eq_true rfl⟩ (fun r1 Lv σv H locs hp hw => ?_)
  obtain ⟨er1, rfl, rfl⟩ := hp
  have er1 : r1 = 0 := er1
  subst er1
  refine lv_if_ne (tgt := 10) hx hb dX8_march_4 (by decide) (fun c2 => ?_) (fun c2 => ?_)
  · skip
    exact absurd c2 (by decide)
  · skip
    refine lv_ldc (v := (-1000002)) hx hb hown (hts (.constant RX8 183 (-1000002)) (by decide +kernel)) dX8_march_7 ?_
    exact kq_iret hx hb hr hlocks hw (Nat.le_of_ble_eq_true rfl) (Nat.le_of_ble_eq_true rfl) dX8_march_9 rfl
abbrev rmX8_cheap : Room := { frames := 1, cells := 0, slots := 0, locals := 20 }
set_option maxHeartbeats 4000000 in
set_option maxRecDepth 100000 in
theorem f_X8_cheap (l : Launch) (E : kq_T) (L : List Nat) (σ : Nat → va_E) {m_ : Nat} (hF : fr_M E L σ m_) (a0 a1 a2 : Int32) : kq_I l E yX8_cheap wsX8_cheap rmX8_cheap [.ref m_, .int a0, .int a1, .int a2] L σ (fun r _ _ => r = (-1000002)) := by
  have hF0 := hF
  obtain ⟨la, mn, it, sp, tp, nw, dr, tr, pa, im, kp, me, tc, fl, hL_m_, hS_m_, hL_la, hS_la, hL_mn, hS_mn, hL_it, hS_it, hL_tp, hS_tp, hL_nw, hS_nw, hL_dr, hS_dr, hL_kp, hS_kp, hlm, hfl⟩ := hF
  refine kq_enterI (cc := cX8_cheap) (maxL := 10) (ret := (some .int)) (by decide) rfl (Nat.le_of_ble_eq_true rfl) rfl ?_
  intro p e s m below meth c A ls C hK hw hl
  obtain ⟨hx, hb, hml, hown, hts, hr, hlocks, hnm⟩ := C
  have hown : s.vm.findClass RX8 = some m.cls := hown
  have hl : lv_has ls 10 [(0, .ref m_), (1, .int a0), (2, .int a1), (3, .int a2)] := hl
  refine lv_aload_n hx hb dX8_cheap_0 rfl (lv_at hl 0 rfl) ?_
  refine kq_callI (As := []) (rest := []) (n := 0) (q := (RX8, TX8, 23)) (ci := 8) (mc := 0) (ms := 0) ⟨hx, hb, hml, hown, hts⟩ (c_X8_isGate l E L σ hF0) gX8_cheap_X8_isGate rfl (by decide +kernel) ⟨Nat.le_of_ble_eq_true rfl, Nat.le_of_ble_eq_true rfl⟩ hK hw hL_m_ hS_m_ rfl rfl hl.1 rfl (Nat.le_of_ble_eq_true rfl) dX8_cheap_1 rfl rfl ⟨Nat.le_of_ble_eq_true rfl, Nat.le_of_ble_eq_true rfl⟩ (fun r1 Lv σv H locs hp hw => ?_)
  obtain ⟨er1, rfl, rfl⟩ := hp
  have er1 : r1 = 0 := er1
  subst er1
  refine lv_if_ne (tgt := 10) hx hb dX8_cheap_4 (by decide) (fun c2 => ?_) (fun c2 => ?_)
  · skip
    exact absurd c2 (by decide)
  · skip
    refine lv_ldc (v := (-1000002)) hx hb hown (hts (.constant RX8 183 (-1000002)) (by decide +kernel)) dX8_cheap_7 ?_
    exact kq_iret hx hb hr hlocks hw (Nat.le_of_ble_eq_true rfl) (Nat.le_of_ble_eq_true rfl) dX8_cheap_9 rfl
abbrev rmX8_near : Room := { frames := 2, cells := 0, slots := 0, locals := 43 }
set_option maxHeartbeats 4000000 in
set_option maxRecDepth 100000 in
theorem f_X8_near (l : Launch) (E : kq_T) (L : List Nat) (σ : Nat → va_E) {m_ : Nat} (hF : fr_M E L σ m_) (a0 a1 : Int32) : kq_I l E yX8_near wsX8_near rmX8_near [.ref m_, .int a0, .int a1] L σ (fun r _ _ => r = (-1000001)) := by
  have hF0 := hF
  obtain ⟨la, mn, it, sp, tp, nw, dr, tr, pa, im, kp, me, tc, fl, hL_m_, hS_m_, hL_la, hS_la, hL_mn, hS_mn, hL_it, hS_it, hL_tp, hS_tp, hL_nw, hS_nw, hL_dr, hS_dr, hL_kp, hS_kp, hlm, hfl⟩ := hF
  refine kq_enterI (cc := cX8_near) (maxL := 5) (ret := (some .int)) (by decide) rfl (Nat.le_of_ble_eq_true rfl) rfl ?_
  intro p e s m below meth c A ls C hK hw hl
  obtain ⟨hx, hb, hml, hown, hts, hr, hlocks, hnm⟩ := C
  have hown : s.vm.findClass RX8 = some m.cls := hown
  have hl : lv_has ls 5 [(0, .ref m_), (1, .int a0), (2, .int a1)] := hl
  refine lv_aload_n hx hb dX8_near_0 rfl (lv_at hl 0 rfl) ?_
  refine lv_iload_n hx hb dX8_near_1 rfl (lv_at hl 1 rfl) ?_
  refine kq_callI (As := [.int a0]) (rest := []) (n := 1) (q := (RX8, TX8, 23)) (ci := 8) (mc := 0) (ms := 0) ⟨hx, hb, hml, hown, hts⟩ (c_X8_isWord l E L σ hF0 a0) gX8_near_X8_isWord rfl (by decide +kernel) ⟨Nat.le_of_ble_eq_true rfl, Nat.le_of_ble_eq_true rfl⟩ hK hw hL_m_ hS_m_ rfl rfl hl.1 rfl (Nat.le_of_ble_eq_true rfl) dX8_near_2 rfl rfl ⟨Nat.le_of_ble_eq_true rfl, Nat.le_of_ble_eq_true rfl⟩ (fun r1 Lv σv H locs hp hw => ?_)
  obtain ⟨er1, rfl, rfl⟩ := hp
  have er1 : r1 = 0 := er1
  subst er1
  refine lv_if_eq (tgt := 17) hx hb dX8_near_5 (by decide) (fun c2 => ?_) (fun c2 => ?_)
  · skip
    refine lv_ldc (v := (-1000001)) hx hb hown (hts (.constant RX8 64 (-1000001)) (by decide +kernel)) dX8_near_17 ?_
    exact kq_iret hx hb hr hlocks hw (Nat.le_of_ble_eq_true rfl) (Nat.le_of_ble_eq_true rfl) dX8_near_19 rfl
  · skip
    exact absurd (by decide) c2
abbrev rmX8_rules : Room := { frames := 1, cells := 0, slots := 0, locals := 20 }
set_option maxHeartbeats 4000000 in
set_option maxRecDepth 100000 in
theorem f_X8_rules (l : Launch) (E : kq_T) (L : List Nat) (σ : Nat → va_E) {m_ : Nat} (hF : fr_M E L σ m_) (a0 a1 a2 a3 : Int32) : kq_I l E yX8_rules wsX8_rules rmX8_rules [.ref m_, .int a0, .int a1, .int a2, .int a3] L σ (fun r _ _ => r = (-1000002)) := by
  have hF0 := hF
  obtain ⟨la, mn, it, sp, tp, nw, dr, tr, pa, im, kp, me, tc, fl, hL_m_, hS_m_, hL_la, hS_la, hL_mn, hS_mn, hL_it, hS_it, hL_tp, hS_tp, hL_nw, hS_nw, hL_dr, hS_dr, hL_kp, hS_kp, hlm, hfl⟩ := hF
  refine kq_enterI (cc := cX8_rules) (maxL := 9) (ret := (some .int)) (by decide) rfl (Nat.le_of_ble_eq_true rfl) rfl ?_
  intro p e s m below meth c A ls C hK hw hl
  obtain ⟨hx, hb, hml, hown, hts, hr, hlocks, hnm⟩ := C
  have hown : s.vm.findClass RX8 = some m.cls := hown
  have hl : lv_has ls 9 [(0, .ref m_), (1, .int a0), (2, .int a1), (3, .int a2), (4, .int a3)] := hl
  refine lv_aload_n hx hb dX8_rules_0 rfl (lv_at hl 0 rfl) ?_
  refine kq_callI (As := []) (rest := []) (n := 0) (q := (RX8, TX8, 23)) (ci := 8) (mc := 0) (ms := 0) ⟨hx, hb, hml, hown, hts⟩ (c_X8_isGate l E L σ hF0) gX8_rules_X8_isGate rfl (by decide +kernel) ⟨Nat.le_of_ble_eq_true rfl, Nat.le_of_ble_eq_true rfl⟩ hK hw hL_m_ hS_m_ rfl rfl hl.1 rfl (Nat.le_of_ble_eq_true rfl) dX8_rules_1 rfl rfl ⟨Nat.le_of_ble_eq_true rfl, Nat.le_of_ble_eq_true rfl⟩ (fun r1 Lv σv H locs hp hw => ?_)
  obtain ⟨er1, rfl, rfl⟩ := hp
  have er1 : r1 = 0 := er1
  subst er1
  refine lv_if_ne (tgt := 10) hx hb dX8_rules_4 (by decide) (fun c2 => ?_) (fun c2 => ?_)
  · skip
    exact absurd c2 (by decide)
  · skip
    refine lv_ldc (v := (-1000002)) hx hb hown (hts (.constant RX8 183 (-1000002)) (by decide +kernel)) dX8_rules_7 ?_
    exact kq_iret hx hb hr hlocks hw (Nat.le_of_ble_eq_true rfl) (Nat.le_of_ble_eq_true rfl) dX8_rules_9 rfl
abbrev rmX8_fits : Room := { frames := 2, cells := 0, slots := 0, locals := 43 }
set_option maxHeartbeats 4000000 in
set_option maxRecDepth 100000 in
theorem f_X8_fits (l : Launch) (E : kq_T) (L : List Nat) (σ : Nat → va_E) {m_ : Nat} (hF : fr_M E L σ m_) (a0 a1 a2 a3 : Int32) : kq_I l E yX8_fits wsX8_fits rmX8_fits [.ref m_, .int a0, .int a1, .int a2, .int a3] L σ (fun r _ _ => r = (-1000001)) := by
  have hF0 := hF
  obtain ⟨la, mn, it, sp, tp, nw, dr, tr, pa, im, kp, me, tc, fl, hL_m_, hS_m_, hL_la, hS_la, hL_mn, hS_mn, hL_it, hS_it, hL_tp, hS_tp, hL_nw, hS_nw, hL_dr, hS_dr, hL_kp, hS_kp, hlm, hfl⟩ := hF
  refine kq_enterI (cc := cX8_fits) (maxL := 8) (ret := (some .int)) (by decide) rfl (Nat.le_of_ble_eq_true rfl) rfl ?_
  intro p e s m below meth c A ls C hK hw hl
  obtain ⟨hx, hb, hml, hown, hts, hr, hlocks, hnm⟩ := C
  have hown : s.vm.findClass RX8 = some m.cls := hown
  have hl : lv_has ls 8 [(0, .ref m_), (1, .int a0), (2, .int a1), (3, .int a2), (4, .int a3)] := hl
  refine lv_aload_n hx hb dX8_fits_0 rfl (lv_at hl 0 rfl) ?_
  refine lv_iload_n hx hb dX8_fits_1 rfl (lv_at hl 1 rfl) ?_
  refine kq_callI (As := [.int a0]) (rest := []) (n := 1) (q := (RX8, TX8, 23)) (ci := 8) (mc := 0) (ms := 0) ⟨hx, hb, hml, hown, hts⟩ (c_X8_isGuard l E L σ hF0 a0) gX8_fits_X8_isGuard rfl (by decide +kernel) ⟨Nat.le_of_ble_eq_true rfl, Nat.le_of_ble_eq_true rfl⟩ hK hw hL_m_ hS_m_ rfl rfl hl.1 rfl (Nat.le_of_ble_eq_true rfl) dX8_fits_2 rfl rfl ⟨Nat.le_of_ble_eq_true rfl, Nat.le_of_ble_eq_true rfl⟩ (fun r1 Lv σv H locs hp hw => ?_)
  obtain ⟨er1, rfl, rfl⟩ := hp
  have er1 : r1 = 0 := er1
  subst er1
  refine lv_if_eq (tgt := 25) hx hb dX8_fits_5 (by decide) (fun c2 => ?_) (fun c2 => ?_)
  · skip
    refine lv_ldc (v := (-1000001)) hx hb hown (hts (.constant RX8 64 (-1000001)) (by decide +kernel)) dX8_fits_25 ?_
    exact kq_iret hx hb hr hlocks hw (Nat.le_of_ble_eq_true rfl) (Nat.le_of_ble_eq_true rfl) dX8_fits_27 rfl
  · skip
    exact absurd (by decide) c2
abbrev rmX8_sure : Room := { frames := 2, cells := 0, slots := 0, locals := 43 }
set_option maxHeartbeats 4000000 in
set_option maxRecDepth 100000 in
theorem f_X8_sure (l : Launch) (E : kq_T) (L : List Nat) (σ : Nat → va_E) {m_ : Nat} (hF : fr_M E L σ m_) (a0 a1 a2 a3 : Int32) : kq_I l E yX8_sure wsX8_sure rmX8_sure [.ref m_, .int a0, .int a1, .int a2, .int a3] L σ (fun r _ _ => r = (-1000001)) := by
  have hF0 := hF
  obtain ⟨la, mn, it, sp, tp, nw, dr, tr, pa, im, kp, me, tc, fl, hL_m_, hS_m_, hL_la, hS_la, hL_mn, hS_mn, hL_it, hS_it, hL_tp, hS_tp, hL_nw, hS_nw, hL_dr, hS_dr, hL_kp, hS_kp, hlm, hfl⟩ := hF
  refine kq_enterI (cc := cX8_sure) (maxL := 12) (ret := (some .int)) (by decide) rfl (Nat.le_of_ble_eq_true rfl) rfl ?_
  intro p e s m below meth c A ls C hK hw hl
  obtain ⟨hx, hb, hml, hown, hts, hr, hlocks, hnm⟩ := C
  have hown : s.vm.findClass RX8 = some m.cls := hown
  have hl : lv_has ls 12 [(0, .ref m_), (1, .int a0), (2, .int a1), (3, .int a2), (4, .int a3)] := hl
  refine lv_aload_n hx hb dX8_sure_0 rfl (lv_at hl 0 rfl) ?_
  refine lv_iload_n hx hb dX8_sure_1 rfl (lv_at hl 1 rfl) ?_
  refine kq_callI (As := [.int a0]) (rest := []) (n := 1) (q := (RX8, TX8, 23)) (ci := 8) (mc := 0) (ms := 0) ⟨hx, hb, hml, hown, hts⟩ (c_X8_isWord l E L σ hF0 a0) gX8_sure_X8_isWord rfl (by decide +kernel) ⟨Nat.le_of_ble_eq_true rfl, Nat.le_of_ble_eq_true rfl⟩ hK hw hL_m_ hS_m_ rfl rfl hl.1 rfl (Nat.le_of_ble_eq_true rfl) dX8_sure_2 rfl rfl ⟨Nat.le_of_ble_eq_true rfl, Nat.le_of_ble_eq_true rfl⟩ (fun r1 Lv σv H locs hp hw => ?_)
  obtain ⟨er1, rfl, rfl⟩ := hp
  have er1 : r1 = 0 := er1
  subst er1
  refine lv_if_eq (tgt := 35) hx hb dX8_sure_5 (by decide) (fun c2 => ?_) (fun c2 => ?_)
  · skip
    refine lv_ldc (v := (-1000001)) hx hb hown (hts (.constant RX8 64 (-1000001)) (by decide +kernel)) dX8_sure_35 ?_
    exact kq_iret hx hb hr hlocks hw (Nat.le_of_ble_eq_true rfl) (Nat.le_of_ble_eq_true rfl) dX8_sure_37 rfl
  · skip
    exact absurd (by decide) c2
abbrev rmX8_drawn : Room := { frames := 1, cells := 0, slots := 0, locals := 20 }
set_option maxHeartbeats 4000000 in
set_option maxRecDepth 100000 in
theorem f_X8_drawn (l : Launch) (E : kq_T) (L : List Nat) (σ : Nat → va_E) {m_ : Nat} (hF : fr_M E L σ m_) (a0 a1 a2 : Int32) : kq_I l E yX8_drawn wsX8_drawn rmX8_drawn [.ref m_, .int a0, .int a1, .int a2] L σ (fun r _ _ => r = (-1000002)) := by
  have hF0 := hF
  obtain ⟨la, mn, it, sp, tp, nw, dr, tr, pa, im, kp, me, tc, fl, hL_m_, hS_m_, hL_la, hS_la, hL_mn, hS_mn, hL_it, hS_it, hL_tp, hS_tp, hL_nw, hS_nw, hL_dr, hS_dr, hL_kp, hS_kp, hlm, hfl⟩ := hF
  refine kq_enterI (cc := cX8_drawn) (maxL := 11) (ret := (some .int)) (by decide) rfl (Nat.le_of_ble_eq_true rfl) rfl ?_
  intro p e s m below meth c A ls C hK hw hl
  obtain ⟨hx, hb, hml, hown, hts, hr, hlocks, hnm⟩ := C
  have hown : s.vm.findClass RX8 = some m.cls := hown
  have hl : lv_has ls 11 [(0, .ref m_), (1, .int a0), (2, .int a1), (3, .int a2)] := hl
  refine lv_aload_n hx hb dX8_drawn_0 rfl (lv_at hl 0 rfl) ?_
  refine kq_callI (As := []) (rest := []) (n := 0) (q := (RX8, TX8, 23)) (ci := 8) (mc := 0) (ms := 0) ⟨hx, hb, hml, hown, hts⟩ (c_X8_isGate l E L σ hF0) gX8_drawn_X8_isGate rfl (by decide +kernel) ⟨Nat.le_of_ble_eq_true rfl, Nat.le_of_ble_eq_true rfl⟩ hK hw hL_m_ hS_m_ rfl rfl hl.1 rfl (Nat.le_of_ble_eq_true rfl) dX8_drawn_1 rfl rfl ⟨Nat.le_of_ble_eq_true rfl, Nat.le_of_ble_eq_true rfl⟩ (fun r1 Lv σv H locs hp hw => ?_)
  obtain ⟨er1, rfl, rfl⟩ := hp
  have er1 : r1 = 0 := er1
  subst er1
  refine lv_if_ne (tgt := 10) hx hb dX8_drawn_4 (by decide) (fun c2 => ?_) (fun c2 => ?_)
  · skip
    exact absurd c2 (by decide)
  · skip
    refine lv_ldc (v := (-1000002)) hx hb hown (hts (.constant RX8 183 (-1000002)) (by decide +kernel)) dX8_drawn_7 ?_
    exact kq_iret hx hb hr hlocks hw (Nat.le_of_ble_eq_true rfl) (Nat.le_of_ble_eq_true rfl) dX8_drawn_9 rfl
abbrev rmX8_kind : Room := { frames := 2, cells := 0, slots := 0, locals := 43 }
set_option maxHeartbeats 4000000 in
set_option maxRecDepth 100000 in
theorem f_X8_kind (l : Launch) (E : kq_T) (L : List Nat) (σ : Nat → va_E) {m_ : Nat} (hF : fr_M E L σ m_) (a0 : Int32) : kq_I l E yX8_kind wsX8_kind rmX8_kind [.ref m_, .int a0] L σ (fun r _ _ => r = (-1000001)) := by
  have hF0 := hF
  obtain ⟨la, mn, it, sp, tp, nw, dr, tr, pa, im, kp, me, tc, fl, hL_m_, hS_m_, hL_la, hS_la, hL_mn, hS_mn, hL_it, hS_it, hL_tp, hS_tp, hL_nw, hS_nw, hL_dr, hS_dr, hL_kp, hS_kp, hlm, hfl⟩ := hF
  refine kq_enterI (cc := cX8_kind) (maxL := 2) (ret := (some .int)) (by decide) rfl (Nat.le_of_ble_eq_true rfl) rfl ?_
  intro p e s m below meth c A ls C hK hw hl
  obtain ⟨hx, hb, hml, hown, hts, hr, hlocks, hnm⟩ := C
  have hown : s.vm.findClass RX8 = some m.cls := hown
  have hl : lv_has ls 2 [(0, .ref m_), (1, .int a0)] := hl
  refine lv_aload_n hx hb dX8_kind_0 rfl (lv_at hl 0 rfl) ?_
  refine lv_iload_n hx hb dX8_kind_1 rfl (lv_at hl 1 rfl) ?_
  refine kq_callI (As := [.int a0]) (rest := []) (n := 1) (q := (RX8, TX8, 23)) (ci := 8) (mc := 0) (ms := 0) ⟨hx, hb, hml, hown, hts⟩ (c_X8_isGuard l E L σ hF0 a0) gX8_kind_X8_isGuard rfl (by decide +kernel) ⟨Nat.le_of_ble_eq_true rfl, Nat.le_of_ble_eq_true rfl⟩ hK hw hL_m_ hS_m_ rfl rfl hl.1 rfl (Nat.le_of_ble_eq_true rfl) dX8_kind_2 rfl rfl ⟨Nat.le_of_ble_eq_true rfl, Nat.le_of_ble_eq_true rfl⟩ (fun r1 Lv σv H locs hp hw => ?_)
  obtain ⟨er1, rfl, rfl⟩ := hp
  have er1 : r1 = 0 := er1
  subst er1
  refine lv_if_eq (tgt := 16) hx hb dX8_kind_5 (by decide) (fun c2 => ?_) (fun c2 => ?_)
  · skip
    refine lv_ldc (v := (-1000001)) hx hb hown (hts (.constant RX8 64 (-1000001)) (by decide +kernel)) dX8_kind_16 ?_
    exact kq_iret hx hb hr hlocks hw (Nat.le_of_ble_eq_true rfl) (Nat.le_of_ble_eq_true rfl) dX8_kind_18 rfl
  · skip
    exact absurd (by decide) c2
abbrev rmX8_as : Room := { frames := 2, cells := 0, slots := 0, locals := 43 }
set_option maxHeartbeats 4000000 in
set_option maxRecDepth 100000 in
theorem f_X8_as (l : Launch) (E : kq_T) (L : List Nat) (σ : Nat → va_E) {m_ : Nat} (hF : fr_M E L σ m_) (a0 a1 : Int32) : kq_I l E yX8_as wsX8_as rmX8_as [.ref m_, .int a0, .int a1] L σ (fun r _ _ => r = (-1000001)) := by
  have hF0 := hF
  obtain ⟨la, mn, it, sp, tp, nw, dr, tr, pa, im, kp, me, tc, fl, hL_m_, hS_m_, hL_la, hS_la, hL_mn, hS_mn, hL_it, hS_it, hL_tp, hS_tp, hL_nw, hS_nw, hL_dr, hS_dr, hL_kp, hS_kp, hlm, hfl⟩ := hF
  refine kq_enterI (cc := cX8_as) (maxL := 5) (ret := (some .int)) (by decide) rfl (Nat.le_of_ble_eq_true rfl) rfl ?_
  intro p e s m below meth c A ls C hK hw hl
  obtain ⟨hx, hb, hml, hown, hts, hr, hlocks, hnm⟩ := C
  have hown : s.vm.findClass RX8 = some m.cls := hown
  have hl : lv_has ls 5 [(0, .ref m_), (1, .int a0), (2, .int a1)] := hl
  refine lv_aload_n hx hb dX8_as_0 rfl (lv_at hl 0 rfl) ?_
  refine lv_iload_n hx hb dX8_as_1 rfl (lv_at hl 1 rfl) ?_
  refine kq_callI (As := [.int a0]) (rest := []) (n := 1) (q := (RX8, TX8, 23)) (ci := 8) (mc := 0) (ms := 0) ⟨hx, hb, hml, hown, hts⟩ (c_X8_isGuard l E L σ hF0 a0) gX8_as_X8_isGuard rfl (by decide +kernel) ⟨Nat.le_of_ble_eq_true rfl, Nat.le_of_ble_eq_true rfl⟩ hK hw hL_m_ hS_m_ rfl rfl hl.1 rfl (Nat.le_of_ble_eq_true rfl) dX8_as_2 rfl rfl ⟨Nat.le_of_ble_eq_true rfl, Nat.le_of_ble_eq_true rfl⟩ (fun r1 Lv σv H locs hp hw => ?_)
  obtain ⟨er1, rfl, rfl⟩ := hp
  have er1 : r1 = 0 := er1
  subst er1
  refine lv_if_eq (tgt := 17) hx hb dX8_as_5 (by decide) (fun c2 => ?_) (fun c2 => ?_)
  · skip
    refine lv_ldc (v := (-1000001)) hx hb hown (hts (.constant RX8 64 (-1000001)) (by decide +kernel)) dX8_as_17 ?_
    exact kq_iret hx hb hr hlocks hw (Nat.le_of_ble_eq_true rfl) (Nat.le_of_ble_eq_true rfl) dX8_as_19 rfl
  · skip
    exact absurd (by decide) c2
abbrev rmX8_ask : Room := { frames := 2, cells := 0, slots := 0, locals := 43 }
set_option maxHeartbeats 4000000 in
set_option maxRecDepth 100000 in
theorem f_X8_ask (l : Launch) (E : kq_T) (L : List Nat) (σ : Nat → va_E) {m_ : Nat} (hF : fr_M E L σ m_) (a0 a1 : Int32) : kq_I l E yX8_ask wsX8_ask rmX8_ask [.ref m_, .int a0, .int a1] L σ (fun r _ _ => r = (-1000001)) := by
  have hF0 := hF
  obtain ⟨la, mn, it, sp, tp, nw, dr, tr, pa, im, kp, me, tc, fl, hL_m_, hS_m_, hL_la, hS_la, hL_mn, hS_mn, hL_it, hS_it, hL_tp, hS_tp, hL_nw, hS_nw, hL_dr, hS_dr, hL_kp, hS_kp, hlm, hfl⟩ := hF
  refine kq_enterI (cc := cX8_ask) (maxL := 4) (ret := (some .int)) (by decide) rfl (Nat.le_of_ble_eq_true rfl) rfl ?_
  intro p e s m below meth c A ls C hK hw hl
  obtain ⟨hx, hb, hml, hown, hts, hr, hlocks, hnm⟩ := C
  have hown : s.vm.findClass RX8 = some m.cls := hown
  have hl : lv_has ls 4 [(0, .ref m_), (1, .int a0), (2, .int a1)] := hl
  refine lv_aload_n hx hb dX8_ask_0 rfl (lv_at hl 0 rfl) ?_
  refine lv_iload_n hx hb dX8_ask_1 rfl (lv_at hl 1 rfl) ?_
  refine kq_callI (As := [.int a0]) (rest := []) (n := 1) (q := (RX8, TX8, 23)) (ci := 8) (mc := 0) (ms := 0) ⟨hx, hb, hml, hown, hts⟩ (c_X8_isGuard l E L σ hF0 a0) gX8_ask_X8_isGuard rfl (by decide +kernel) ⟨Nat.le_of_ble_eq_true rfl, Nat.le_of_ble_eq_true rfl⟩ hK hw hL_m_ hS_m_ rfl rfl hl.1 rfl (Nat.le_of_ble_eq_true rfl) dX8_ask_2 rfl rfl ⟨Nat.le_of_ble_eq_true rfl, Nat.le_of_ble_eq_true rfl⟩ (fun r1 Lv σv H locs hp hw => ?_)
  obtain ⟨er1, rfl, rfl⟩ := hp
  have er1 : r1 = 0 := er1
  subst er1
  refine lv_if_eq (tgt := 17) hx hb dX8_ask_5 (by decide) (fun c2 => ?_) (fun c2 => ?_)
  · skip
    refine lv_ldc (v := (-1000001)) hx hb hown (hts (.constant RX8 64 (-1000001)) (by decide +kernel)) dX8_ask_17 ?_
    exact kq_iret hx hb hr hlocks hw (Nat.le_of_ble_eq_true rfl) (Nat.le_of_ble_eq_true rfl) dX8_ask_19 rfl
  · skip
    exact absurd (by decide) c2
abbrev rmX8_fault : Room := { frames := 0, cells := 0, slots := 0, locals := 0 }
set_option maxHeartbeats 4000000 in
set_option maxRecDepth 100000 in
theorem f_X8_fault (l : Launch) (E : kq_T) (L : List Nat) (σ : Nat → va_E) {m_ : Nat} (hF : fr_M E L σ m_) : kq_I l E yX8_fault wsX8_fault rmX8_fault [.ref m_] L σ (fun r _ _ => r = 0) := by
  have hF0 := hF
  obtain ⟨la, mn, it, sp, tp, nw, dr, tr, pa, im, kp, me, tc, fl, hL_m_, hS_m_, hL_la, hS_la, hL_mn, hS_mn, hL_it, hS_it, hL_tp, hS_tp, hL_nw, hS_nw, hL_dr, hS_dr, hL_kp, hS_kp, hlm, hfl⟩ := hF
  refine kq_enterI (cc := cX8_fault) (maxL := 1) (ret := (some .int)) (by decide) rfl (Nat.le_of_ble_eq_true rfl) rfl ?_
  intro p e s m below meth c A ls C hK hw hl
  obtain ⟨hx, hb, hml, hown, hts, hr, hlocks, hnm⟩ := C
  have hown : s.vm.findClass RX8 = some m.cls := hown
  have hl : lv_has ls 1 [(0, .ref m_)] := hl
  refine lv_aload_n hx hb dX8_fault_0 rfl (lv_at hl 0 rfl) ?_
  refine kq_get (ci := 8) (v := .int 0) (C := RX8) (T := TX8) (N := 23) hx hb hts (by decide +kernel) hown hK hw hL_m_ hS_m_ rfl 7 (by decide) (hts (.fieldLink RX8 108 "WrongWordModel" "faultKind" "I") (by decide +kernel)) rfl dX8_fault_1 ?_
  exact kq_iret hx hb hr hlocks hw (Nat.le_of_ble_eq_true rfl) (Nat.le_of_ble_eq_true rfl) dX8_fault_4 rfl
abbrev rmX8_status : Room := { frames := 0, cells := 0, slots := 0, locals := 0 }
set_option maxHeartbeats 4000000 in
set_option maxRecDepth 100000 in
theorem f_X8_status (l : Launch) (E : kq_T) (L : List Nat) (σ : Nat → va_E) {m_ : Nat} (hF : fr_M E L σ m_) : kq_I l E yX8_status wsX8_status rmX8_status [.ref m_] L σ (fun r _ _ => r = 0) := by
  have hF0 := hF
  obtain ⟨la, mn, it, sp, tp, nw, dr, tr, pa, im, kp, me, tc, fl, hL_m_, hS_m_, hL_la, hS_la, hL_mn, hS_mn, hL_it, hS_it, hL_tp, hS_tp, hL_nw, hS_nw, hL_dr, hS_dr, hL_kp, hS_kp, hlm, hfl⟩ := hF
  refine kq_enterI (cc := cX8_status) (maxL := 1) (ret := (some .int)) (by decide) rfl (Nat.le_of_ble_eq_true rfl) rfl ?_
  intro p e s m below meth c A ls C hK hw hl
  obtain ⟨hx, hb, hml, hown, hts, hr, hlocks, hnm⟩ := C
  have hown : s.vm.findClass RX8 = some m.cls := hown
  have hl : lv_has ls 1 [(0, .ref m_)] := hl
  refine lv_aload_n hx hb dX8_status_0 rfl (lv_at hl 0 rfl) ?_
  refine kq_get (ci := 8) (v := .int 0) (C := RX8) (T := TX8) (N := 23) hx hb hts (by decide +kernel) hown hK hw hL_m_ hS_m_ rfl 4 (by decide) (hts (.fieldLink RX8 51 "WrongWordModel" "status" "I") (by decide +kernel)) rfl dX8_status_1 ?_
  exact kq_iret hx hb hr hlocks hw (Nat.le_of_ble_eq_true rfl) (Nat.le_of_ble_eq_true rfl) dX8_status_4 rfl
abbrev rmX8_tried : Room := { frames := 1, cells := 0, slots := 0, locals := 22 }
set_option maxHeartbeats 4000000 in
set_option maxRecDepth 100000 in
theorem f_X8_tried (l : Launch) (E : kq_T) (L : List Nat) (σ : Nat → va_E) {m_ : Nat} (hF : fr_M E L σ m_) (a0 a1 : Int32) : kq_I l E yX8_tried wsX8_tried rmX8_tried [.ref m_, .int a0, .int a1] L σ (fun r _ _ => r = (-1000001)) := by
  have hF0 := hF
  obtain ⟨la, mn, it, sp, tp, nw, dr, tr, pa, im, kp, me, tc, fl, hL_m_, hS_m_, hL_la, hS_la, hL_mn, hS_mn, hL_it, hS_it, hL_tp, hS_tp, hL_nw, hS_nw, hL_dr, hS_dr, hL_kp, hS_kp, hlm, hfl⟩ := hF
  refine kq_enterI (cc := cX8_tried) (maxL := 4) (ret := (some .int)) (by decide) rfl (Nat.le_of_ble_eq_true rfl) rfl ?_
  intro p e s m below meth c A ls C hK hw hl
  obtain ⟨hx, hb, hml, hown, hts, hr, hlocks, hnm⟩ := C
  have hown : s.vm.findClass RX8 = some m.cls := hown
  have hl : lv_has ls 4 [(0, .ref m_), (1, .int a0), (2, .int a1)] := hl
  refine lv_iload_n hx hb dX8_tried_0 rfl (lv_at hl 1 rfl) ?_
  refine lv_iconst (v := 0) hx hb dX8_tried_1 (by decide) ?_
  refine lv_aload_n hx hb dX8_tried_2 rfl (lv_at hl 0 rfl) ?_
  refine kq_get (ci := 8) (v := .ref nw) (C := RX8) (T := TX8) (N := 23) hx hb hts (by decide +kernel) hown hK hw hL_m_ hS_m_ rfl 13 (by decide) (hts (.fieldLink RX8 25 "WrongWordModel" "now" "[I") (by decide +kernel)) rfl dX8_tried_3 ?_
  refine lv_bipush (v := 7) hx hb dX8_tried_6 (by decide) ?_
  refine kq_iald hx hb hK hw hL_nw hS_nw (by unfold vp_in; decide) dX8_tried_8 ?_
  refine lv_topi (fun v1 ev1 => ?_)
  have ev1 : v1 = 0 := ev1
  subst ev1
  refine lv_iconst (v := 1) hx hb dX8_tried_9 (by decide) ?_
  refine lv_isub hx hb dX8_tried_10 ?_
  refine lv_topi (fun v2 ev2 => ?_)
  have ev2 : v2 = (-1) := by rw [ev2]; decide
  subst ev2
  refine kq_callS (As := [.int a0, .int 0, .int ((-1))]) (rest := []) (n := 3) (mc := 0) (ms := 0) ⟨hx, hb, hml, hown, hts⟩ (c_X8_in l E L σ a0 0 ((-1))) gX8_tried_X8_in rfl (by decide +kernel) ⟨Nat.le_of_ble_eq_true rfl, Nat.le_of_ble_eq_true rfl⟩ hK hw rfl hl.1 rfl (Nat.le_of_ble_eq_true rfl) dX8_tried_11 rfl rfl ⟨Nat.le_of_ble_eq_true rfl, Nat.le_of_ble_eq_true rfl⟩ (fun r3 Lv σv H locs hp hw => ?_)
  obtain ⟨er3, rfl, rfl⟩ := hp
  have er3 : r3 = 0 := er3.trans (sp_in_m _)
  subst er3
  refine lv_if_eq (tgt := 26) hx hb dX8_tried_14 (by decide) (fun c4 => ?_) (fun c4 => ?_)
  · skip
    refine lv_ldc (v := (-1000001)) hx hb hown (hts (.constant RX8 64 (-1000001)) (by decide +kernel)) dX8_tried_26 ?_
    exact kq_iret hx hb hr hlocks hw (Nat.le_of_ble_eq_true rfl) (Nat.le_of_ble_eq_true rfl) dX8_tried_28 rfl
  · skip
    exact absurd (by decide) c4
abbrev rmX8_trace : Room := { frames := 1, cells := 0, slots := 0, locals := 22 }
set_option maxHeartbeats 4000000 in
set_option maxRecDepth 100000 in
theorem f_X8_trace (l : Launch) (E : kq_T) (L : List Nat) (σ : Nat → va_E) {m_ : Nat} (hF : fr_M E L σ m_) (a0 : Int32) : kq_I l E yX8_trace wsX8_trace rmX8_trace [.ref m_, .int a0] L σ (fun r _ _ => r = (-1000000)) := by
  have hF0 := hF
  obtain ⟨la, mn, it, sp, tp, nw, dr, tr, pa, im, kp, me, tc, fl, hL_m_, hS_m_, hL_la, hS_la, hL_mn, hS_mn, hL_it, hS_it, hL_tp, hS_tp, hL_nw, hS_nw, hL_dr, hS_dr, hL_kp, hS_kp, hlm, hfl⟩ := hF
  refine kq_enterI (cc := cX8_trace) (maxL := 2) (ret := (some .int)) (by decide) rfl (Nat.le_of_ble_eq_true rfl) rfl ?_
  intro p e s m below meth c A ls C hK hw hl
  obtain ⟨hx, hb, hml, hown, hts, hr, hlocks, hnm⟩ := C
  have hown : s.vm.findClass RX8 = some m.cls := hown
  have hl : lv_has ls 2 [(0, .ref m_), (1, .int a0)] := hl
  refine lv_iload_n hx hb dX8_trace_0 rfl (lv_at hl 1 rfl) ?_
  refine lv_iconst (v := 0) hx hb dX8_trace_1 (by decide) ?_
  refine lv_aload_n hx hb dX8_trace_2 rfl (lv_at hl 0 rfl) ?_
  refine kq_get (ci := 8) (v := .int 0) (C := RX8) (T := TX8) (N := 23) hx hb hts (by decide +kernel) hown hK hw hL_m_ hS_m_ rfl 22 (by decide) (hts (.fieldLink RX8 237 "WrongWordModel" "traced" "I") (by decide +kernel)) rfl dX8_trace_3 ?_
  refine lv_iconst (v := 1) hx hb dX8_trace_6 (by decide) ?_
  refine lv_isub hx hb dX8_trace_7 ?_
  refine lv_topi (fun v1 ev1 => ?_)
  have ev1 : v1 = (-1) := by rw [ev1]; decide
  subst ev1
  refine kq_callS (As := [.int a0, .int 0, .int ((-1))]) (rest := []) (n := 3) (mc := 0) (ms := 0) ⟨hx, hb, hml, hown, hts⟩ (c_X8_in l E L σ a0 0 ((-1))) gX8_trace_X8_in rfl (by decide +kernel) ⟨Nat.le_of_ble_eq_true rfl, Nat.le_of_ble_eq_true rfl⟩ hK hw rfl hl.1 rfl (Nat.le_of_ble_eq_true rfl) dX8_trace_8 rfl rfl ⟨Nat.le_of_ble_eq_true rfl, Nat.le_of_ble_eq_true rfl⟩ (fun r2 Lv σv H locs hp hw => ?_)
  obtain ⟨er2, rfl, rfl⟩ := hp
  have er2 : r2 = 0 := er2.trans (sp_in_m _)
  subst er2
  refine lv_if_eq (tgt := 23) hx hb dX8_trace_11 (by decide) (fun c3 => ?_) (fun c3 => ?_)
  · skip
    refine lv_ldc (v := (-1000000)) hx hb hown (hts (.constant RX8 50 (-1000000)) (by decide +kernel)) dX8_trace_23 ?_
    exact kq_iret hx hb hr hlocks hw (Nat.le_of_ble_eq_true rfl) (Nat.le_of_ble_eq_true rfl) dX8_trace_25 rfl
  · skip
    exact absurd (by decide) c3
abbrev rmX8_undo : Room := { frames := 0, cells := 0, slots := 0, locals := 0 }
set_option maxHeartbeats 4000000 in
set_option maxRecDepth 100000 in
theorem f_X8_undo (l : Launch) (E : kq_T) (L : List Nat) (σ : Nat → va_E) {m_ : Nat} (hF : fr_M E L σ m_) : kq_I l E yX8_undo wsX8_undo rmX8_undo [.ref m_] L σ (fun r _ _ => r = (-1000002)) := by
  have hF0 := hF
  obtain ⟨la, mn, it, sp, tp, nw, dr, tr, pa, im, kp, me, tc, fl, hL_m_, hS_m_, hL_la, hS_la, hL_mn, hS_mn, hL_it, hS_it, hL_tp, hS_tp, hL_nw, hS_nw, hL_dr, hS_dr, hL_kp, hS_kp, hlm, hfl⟩ := hF
  refine kq_enterI (cc := cX8_undo) (maxL := 1) (ret := (some .int)) (by decide) rfl (Nat.le_of_ble_eq_true rfl) rfl ?_
  intro p e s m below meth c A ls C hK hw hl
  obtain ⟨hx, hb, hml, hown, hts, hr, hlocks, hnm⟩ := C
  have hown : s.vm.findClass RX8 = some m.cls := hown
  have hl : lv_has ls 1 [(0, .ref m_)] := hl
  refine lv_aload_n hx hb dX8_undo_0 rfl (lv_at hl 0 rfl) ?_
  refine kq_get (ci := 8) (v := .int 0) (C := RX8) (T := TX8) (N := 23) hx hb hts (by decide +kernel) hown hK hw hL_m_ hS_m_ rfl 17 (by decide) (hts (.fieldLink RX8 149 "WrongWordModel" "acts" "I") (by decide +kernel)) rfl dX8_undo_1 ?_
  refine lv_if_ne (tgt := 10) hx hb dX8_undo_4 (by decide) (fun c1 => ?_) (fun c1 => ?_)
  · skip
    exact absurd c1 (by decide)
  · skip
    refine lv_ldc (v := (-1000002)) hx hb hown (hts (.constant RX8 183 (-1000002)) (by decide +kernel)) dX8_undo_7 ?_
    exact kq_iret hx hb hr hlocks hw (Nat.le_of_ble_eq_true rfl) (Nat.le_of_ble_eq_true rfl) dX8_undo_9 rfl
abbrev rmX8_image : Room := { frames := 1, cells := 0, slots := 0, locals := 22 }
set_option maxHeartbeats 4000000 in
set_option maxRecDepth 100000 in
theorem f_X8_image (l : Launch) (E : kq_T) (L : List Nat) (σ : Nat → va_E) {m_ : Nat} (hF : fr_M E L σ m_) (a0 : Int32) : kq_I l E yX8_image wsX8_image rmX8_image [.ref m_, .int a0] L σ (fun r _ _ => r = sp_im a0) := by
  have hF0 := hF
  obtain ⟨la, mn, it, sp, tp, nw, dr, tr, pa, im, kp, me, tc, fl, hL_m_, hS_m_, hL_la, hS_la, hL_mn, hS_mn, hL_it, hS_it, hL_tp, hS_tp, hL_nw, hS_nw, hL_dr, hS_dr, hL_kp, hS_kp, hlm, hfl⟩ := hF
  refine kq_enterI (cc := cX8_image) (maxL := 2) (ret := (some .int)) (by decide) rfl (Nat.le_of_ble_eq_true rfl) rfl ?_
  intro p e s m below meth c A ls C hK hw hl
  obtain ⟨hx, hb, hml, hown, hts, hr, hlocks, hnm⟩ := C
  have hown : s.vm.findClass RX8 = some m.cls := hown
  have hl : lv_has ls 2 [(0, .ref m_), (1, .int a0)] := hl
  refine lv_iload_n hx hb dX8_image_0 rfl (lv_at hl 1 rfl) ?_
  refine lv_iconst (v := 0) hx hb dX8_image_1 (by decide) ?_
  refine lv_iconst (v := 1) hx hb dX8_image_2 (by decide) ?_
  refine kq_callS (As := [.int a0, .int 0, .int 1]) (rest := []) (n := 3) (mc := 0) (ms := 0) ⟨hx, hb, hml, hown, hts⟩ (c_X8_in l E L σ a0 0 1) gX8_image_X8_in rfl (by decide +kernel) ⟨Nat.le_of_ble_eq_true rfl, Nat.le_of_ble_eq_true rfl⟩ hK hw rfl hl.1 rfl (Nat.le_of_ble_eq_true rfl) dX8_image_3 rfl rfl ⟨Nat.le_of_ble_eq_true rfl, Nat.le_of_ble_eq_true rfl⟩ (fun r1 Lv σv H locs hp hw => ?_)
  obtain ⟨er1, rfl, rfl⟩ := hp
  refine lv_if_ne (tgt := 12) hx hb dX8_image_6 (by decide) (fun c2 => ?_) (fun c2 => ?_)
  · skip
    obtain ⟨hlo_r1, hhi_r1⟩ := sp_in_nz (a := a0) (lo := 0) (hi := 1) (by rw [← er1]; exact c2)
    refine lv_aload_n hx hb dX8_image_12 rfl (lv_at hl 0 rfl) ?_
    refine kq_callI (As := []) (rest := []) (n := 0) (q := (RX8, TX8, 23)) (ci := 8) (mc := 0) (ms := 0) ⟨hx, hb, hml, hown, hts⟩ (c_X8_isGate l E L σ hF0) gX8_image_X8_isGate rfl (by decide +kernel) ⟨Nat.le_of_ble_eq_true rfl, Nat.le_of_ble_eq_true rfl⟩ hK hw hL_m_ hS_m_ rfl rfl hl.1 rfl (Nat.le_of_ble_eq_true rfl) dX8_image_13 rfl rfl ⟨Nat.le_of_ble_eq_true rfl, Nat.le_of_ble_eq_true rfl⟩ (fun r3 Lv σv H locs hp hw => ?_)
    obtain ⟨er3, rfl, rfl⟩ := hp
    have er3 : r3 = 0 := er3
    subst er3
    refine lv_if_ne (tgt := 22) hx hb dX8_image_16 (by decide) (fun c4 => ?_) (fun c4 => ?_)
    · skip
      exact absurd c4 (by decide)
    · skip
      refine lv_ldc (v := (-1000002)) hx hb hown (hts (.constant RX8 183 (-1000002)) (by decide +kernel)) dX8_image_19 ?_
      exact kq_iret hx hb hr hlocks hw (Nat.le_of_ble_eq_true rfl) (Nat.le_of_ble_eq_true rfl) dX8_image_21 (by unfold sp_im; rw [if_neg (not_or.mpr ⟨hlo_r1, fun h9 => hhi_r1 (kq_s1.mpr h9)⟩)])
  · skip
    have hz_r1 := sp_in_z (a := a0) (lo := 0) (hi := 1) (by rw [← er1]; exact c2)
    refine lv_ldc (v := (-1000001)) hx hb hown (hts (.constant RX8 64 (-1000001)) (by decide +kernel)) dX8_image_9 ?_
    exact kq_iret hx hb hr hlocks hw (Nat.le_of_ble_eq_true rfl) (Nat.le_of_ble_eq_true rfl) dX8_image_11 (by unfold sp_im; rw [if_pos (hz_r1.imp id (fun h9 => kq_s1.mp h9))])
abbrev rmX8_restore : Room := { frames := 1, cells := 0, slots := 0, locals := 22 }
set_option maxHeartbeats 4000000 in
set_option maxRecDepth 100000 in
theorem f_X8_restore (l : Launch) (E : kq_T) (L : List Nat) (σ : Nat → va_E) {m_ : Nat} (hF : fr_M E L σ m_) (a0 : Int32) : kq_I l E yX8_restore wsX8_restore rmX8_restore [.ref m_, .int a0] L σ (fun r _ _ => r = sp_im a0) := by
  have hF0 := hF
  obtain ⟨la, mn, it, sp, tp, nw, dr, tr, pa, im, kp, me, tc, fl, hL_m_, hS_m_, hL_la, hS_la, hL_mn, hS_mn, hL_it, hS_it, hL_tp, hS_tp, hL_nw, hS_nw, hL_dr, hS_dr, hL_kp, hS_kp, hlm, hfl⟩ := hF
  refine kq_enterI (cc := cX8_restore) (maxL := 2) (ret := (some .int)) (by decide) rfl (Nat.le_of_ble_eq_true rfl) rfl ?_
  intro p e s m below meth c A ls C hK hw hl
  obtain ⟨hx, hb, hml, hown, hts, hr, hlocks, hnm⟩ := C
  have hown : s.vm.findClass RX8 = some m.cls := hown
  have hl : lv_has ls 2 [(0, .ref m_), (1, .int a0)] := hl
  refine lv_iload_n hx hb dX8_restore_0 rfl (lv_at hl 1 rfl) ?_
  refine lv_iconst (v := 0) hx hb dX8_restore_1 (by decide) ?_
  refine lv_iconst (v := 1) hx hb dX8_restore_2 (by decide) ?_
  refine kq_callS (As := [.int a0, .int 0, .int 1]) (rest := []) (n := 3) (mc := 0) (ms := 0) ⟨hx, hb, hml, hown, hts⟩ (c_X8_in l E L σ a0 0 1) gX8_restore_X8_in rfl (by decide +kernel) ⟨Nat.le_of_ble_eq_true rfl, Nat.le_of_ble_eq_true rfl⟩ hK hw rfl hl.1 rfl (Nat.le_of_ble_eq_true rfl) dX8_restore_3 rfl rfl ⟨Nat.le_of_ble_eq_true rfl, Nat.le_of_ble_eq_true rfl⟩ (fun r1 Lv σv H locs hp hw => ?_)
  obtain ⟨er1, rfl, rfl⟩ := hp
  refine lv_if_ne (tgt := 12) hx hb dX8_restore_6 (by decide) (fun c2 => ?_) (fun c2 => ?_)
  · skip
    obtain ⟨hlo_r1, hhi_r1⟩ := sp_in_nz (a := a0) (lo := 0) (hi := 1) (by rw [← er1]; exact c2)
    refine lv_aload_n hx hb dX8_restore_12 rfl (lv_at hl 0 rfl) ?_
    refine kq_get (ci := 8) (v := .ref kp) (C := RX8) (T := TX8) (N := 23) hx hb hts (by decide +kernel) hown hK hw hL_m_ hS_m_ rfl 19 (by decide) (hts (.fieldLink RX8 40 "WrongWordModel" "kept" "[Z") (by decide +kernel)) rfl dX8_restore_13 ?_
    refine lv_iload_n hx hb dX8_restore_16 rfl (lv_at hl 1 rfl) ?_
    refine kq_zald hx hb hK hw hL_kp hS_kp (kq_in hlo_r1 (n := 2) (by decide) (fun h9 => hhi_r1 (kq_s1.mpr h9))) dX8_restore_17 ?_
    refine lv_topi (fun v3 ev3 => ?_)
    have ev3 : v3 = 0 := ev3
    subst ev3
    refine lv_if_ne (tgt := 24) hx hb dX8_restore_18 (by decide) (fun c4 => ?_) (fun c4 => ?_)
    · skip
      exact absurd c4 (by decide)
    · skip
      refine lv_ldc (v := (-1000002)) hx hb hown (hts (.constant RX8 183 (-1000002)) (by decide +kernel)) dX8_restore_21 ?_
      exact kq_iret hx hb hr hlocks hw (Nat.le_of_ble_eq_true rfl) (Nat.le_of_ble_eq_true rfl) dX8_restore_23 (by unfold sp_im; rw [if_neg (not_or.mpr ⟨hlo_r1, fun h9 => hhi_r1 (kq_s1.mpr h9)⟩)])
  · skip
    have hz_r1 := sp_in_z (a := a0) (lo := 0) (hi := 1) (by rw [← er1]; exact c2)
    refine lv_ldc (v := (-1000001)) hx hb hown (hts (.constant RX8 64 (-1000001)) (by decide +kernel)) dX8_restore_9 ?_
    exact kq_iret hx hb hr hlocks hw (Nat.le_of_ble_eq_true rfl) (Nat.le_of_ble_eq_true rfl) dX8_restore_11 (by unfold sp_im; rw [if_pos (hz_r1.imp id (fun h9 => kq_s1.mp h9))])
abbrev rmX8_feed : Room := { frames := 1, cells := 0, slots := 0, locals := 22 }
set_option maxHeartbeats 4000000 in
set_option maxRecDepth 100000 in
theorem f_X8_feed (l : Launch) (E : kq_T) (L : List Nat) (σ : Nat → va_E) {m_ : Nat} (hF : fr_M E L σ m_) (a0 : Int32) : kq_I l E yX8_feed wsX8_feed rmX8_feed [.ref m_, .int a0] L σ (fun r _ _ => r = sp_feed a0) := by
  have hF0 := hF
  obtain ⟨la, mn, it, sp, tp, nw, dr, tr, pa, im, kp, me, tc, fl, hL_m_, hS_m_, hL_la, hS_la, hL_mn, hS_mn, hL_it, hS_it, hL_tp, hS_tp, hL_nw, hS_nw, hL_dr, hS_dr, hL_kp, hS_kp, hlm, hfl⟩ := hF
  refine kq_enterI (cc := cX8_feed) (maxL := 2) (ret := (some .int)) (by decide) rfl (Nat.le_of_ble_eq_true rfl) rfl ?_
  intro p e s m below meth c A ls C hK hw hl
  obtain ⟨hx, hb, hml, hown, hts, hr, hlocks, hnm⟩ := C
  have hown : s.vm.findClass RX8 = some m.cls := hown
  have hl : lv_has ls 2 [(0, .ref m_), (1, .int a0)] := hl
  refine lv_iload_n hx hb dX8_feed_0 rfl (lv_at hl 1 rfl) ?_
  refine lv_iconst (v := 0) hx hb dX8_feed_1 (by decide) ?_
  refine lv_sipush (v := 255) hx hb dX8_feed_2 (by decide) ?_
  refine kq_callS (As := [.int a0, .int 0, .int 255]) (rest := []) (n := 3) (mc := 0) (ms := 0) ⟨hx, hb, hml, hown, hts⟩ (c_X8_in l E L σ a0 0 255) gX8_feed_X8_in rfl (by decide +kernel) ⟨Nat.le_of_ble_eq_true rfl, Nat.le_of_ble_eq_true rfl⟩ hK hw rfl hl.1 rfl (Nat.le_of_ble_eq_true rfl) dX8_feed_5 rfl rfl ⟨Nat.le_of_ble_eq_true rfl, Nat.le_of_ble_eq_true rfl⟩ (fun r1 Lv σv H locs hp hw => ?_)
  obtain ⟨er1, rfl, rfl⟩ := hp
  refine lv_if_ne (tgt := 14) hx hb dX8_feed_8 (by decide) (fun c2 => ?_) (fun c2 => ?_)
  · skip
    obtain ⟨hlo_r1, hhi_r1⟩ := sp_in_nz (a := a0) (lo := 0) (hi := 255) (by rw [← er1]; exact c2)
    refine lv_aload_n hx hb dX8_feed_14 rfl (lv_at hl 0 rfl) ?_
    refine kq_get (ci := 8) (v := .int 0) (C := RX8) (T := TX8) (N := 23) hx hb hts (by decide +kernel) hown hK hw hL_m_ hS_m_ rfl 6 (by decide) (hts (.fieldLink RX8 82 "WrongWordModel" "taped" "I") (by decide +kernel)) rfl dX8_feed_15 ?_
    refine lv_bipush (v := 100) hx hb dX8_feed_18 (by decide) ?_
    refine lv_icmp_ne (tgt := 26) hx hb dX8_feed_20 (by decide) (fun c3 => ?_) (fun c3 => ?_)
    · skip
      refine lv_aload_n hx hb dX8_feed_26 rfl (lv_at hl 0 rfl) ?_
      refine kq_get (ci := 8) (v := .ref tp) (C := RX8) (T := TX8) (N := 23) hx hb hts (by decide +kernel) hown hK hw hL_m_ hS_m_ rfl 5 (by decide) (hts (.fieldLink RX8 22 "WrongWordModel" "tape" "[I") (by decide +kernel)) rfl dX8_feed_27 ?_
      refine lv_aload_n hx hb dX8_feed_30 rfl (lv_at hl 0 rfl) ?_
      refine kq_get (ci := 8) (v := .int 0) (C := RX8) (T := TX8) (N := 23) hx hb hts (by decide +kernel) hown hK hw hL_m_ hS_m_ rfl 6 (by decide) (hts (.fieldLink RX8 82 "WrongWordModel" "taped" "I") (by decide +kernel)) rfl dX8_feed_31 ?_
      refine lv_iload_n hx hb dX8_feed_34 rfl (lv_at hl 1 rfl) ?_
      refine kq_iast hx hb hK hw hL_tp hS_tp (by unfold vp_in; decide) dX8_feed_35 (fun H locs σ4 eσ4 hw => ?_)
      have nhS_m_ : σ4 m_ = .inr (8, [.ref la, .ref mn, .ref it, .ref sp, .int 0, .ref tp, .int 0, .int 0, .int 0, .int 0, .int 0, .int 0, .int 0, .ref nw, .ref dr, .ref tr, .ref pa, .int 0, .ref im, .ref kp, .ref me, .ref tc, .int 0]) := by rw [eσ4]; exact kq_far (kq_ne hS_m_ hS_tp kq_noa) hS_m_
      have nhS_la : σ4 la = .inl (E.2 0, 8, .inl fl) := by rw [eσ4]; exact kq_far (kq_ne hS_la hS_tp (kq_nlen (by decide))) hS_la
      have nhS_mn : σ4 mn = .inl (E.2 0, 8, .inl (fun _ => 0)) := by rw [eσ4]; exact kq_far (kq_ne hS_mn hS_tp (kq_nlen (by decide))) hS_mn
      have nhS_it : σ4 it = .inl (E.2 0, 320, .inl (fun _ => 0)) := by rw [eσ4]; exact kq_far (kq_ne hS_it hS_tp (kq_nlen (by decide))) hS_it
      have nhS_nw : σ4 nw = .inl (E.2 0, 65, .inl (fun _ => 0)) := by rw [eσ4]; exact kq_far (kq_ne hS_nw hS_tp (kq_nlen (by decide))) hS_nw
      have nhS_dr : σ4 dr = .inl (E.2 0, 65, .inl (fun _ => 0)) := by rw [eσ4]; exact kq_far (kq_ne hS_dr hS_tp (kq_nlen (by decide))) hS_dr
      have nhS_kp : σ4 kp = .inl (E.2 1, 2, .inl (fun _ => 0)) := by rw [eσ4]; exact kq_far (kq_ne hS_kp hS_tp (kq_nlen (by decide))) hS_kp
      have nhS_tp : σ4 tp = .inl (E.2 0, 100, .inl (upd (fun _ => 0) (Int32.toNatClampNeg 0) a0)) := by rw [eσ4]; exact va_up_self _ _ _
      have hS_m_ := nhS_m_
      have hS_la := nhS_la
      have hS_mn := nhS_mn
      have hS_it := nhS_it
      have hS_nw := nhS_nw
      have hS_dr := nhS_dr
      have hS_kp := nhS_kp
      have hS_tp := nhS_tp
      refine lv_aload_n hx hb dX8_feed_36 rfl (lv_at hl 0 rfl) ?_
      refine lv_dup hx hb dX8_feed_37 rfl ?_
      refine kq_get (ci := 8) (v := .int 0) (C := RX8) (T := TX8) (N := 23) hx hb hts (by decide +kernel) hown hK hw hL_m_ hS_m_ rfl 6 (by decide) (hts (.fieldLink RX8 82 "WrongWordModel" "taped" "I") (by decide +kernel)) rfl dX8_feed_38 ?_
      refine lv_iconst (v := 1) hx hb dX8_feed_41 (by decide) ?_
      refine lv_iadd hx hb dX8_feed_42 ?_
      refine lv_topi (fun v5 ev5 => ?_)
      have ev5 : v5 = 1 := by rw [ev5]; decide
      subst ev5
      refine kq_put (ci := 8) (v := .int 1) (ty := .int) (C := RX8) (T := TX8) (N := 23) (fs' := [.ref la, .ref mn, .ref it, .ref sp, .int 0, .ref tp, .int 1, .int 0, .int 0, .int 0, .int 0, .int 0, .int 0, .ref nw, .ref dr, .ref tr, .ref pa, .int 0, .ref im, .ref kp, .ref me, .ref tc, .int 0]) hx hb hts (by decide +kernel) tyX8 tyX8_ok nmX8 hown hK hw hL_m_ hS_m_ rfl 6 (by decide) (hts (.fieldLink RX8 82 "WrongWordModel" "taped" "I") (by decide +kernel)) rfl (by decide +kernel) rfl rfl (Nat.le_of_ble_eq_true rfl) rfl dX8_feed_43 (fun H locs σ6 eσ6 hw => ?_)
      have nhS_la : σ6 la = .inl (E.2 0, 8, .inl fl) := by rw [eσ6]; exact kq_far (kq_ne hS_la hS_m_ kq_nao) hS_la
      have nhS_mn : σ6 mn = .inl (E.2 0, 8, .inl (fun _ => 0)) := by rw [eσ6]; exact kq_far (kq_ne hS_mn hS_m_ kq_nao) hS_mn
      have nhS_it : σ6 it = .inl (E.2 0, 320, .inl (fun _ => 0)) := by rw [eσ6]; exact kq_far (kq_ne hS_it hS_m_ kq_nao) hS_it
      have nhS_nw : σ6 nw = .inl (E.2 0, 65, .inl (fun _ => 0)) := by rw [eσ6]; exact kq_far (kq_ne hS_nw hS_m_ kq_nao) hS_nw
      have nhS_dr : σ6 dr = .inl (E.2 0, 65, .inl (fun _ => 0)) := by rw [eσ6]; exact kq_far (kq_ne hS_dr hS_m_ kq_nao) hS_dr
      have nhS_kp : σ6 kp = .inl (E.2 1, 2, .inl (fun _ => 0)) := by rw [eσ6]; exact kq_far (kq_ne hS_kp hS_m_ kq_nao) hS_kp
      have nhS_tp : σ6 tp = .inl (E.2 0, 100, .inl (upd (fun _ => 0) (Int32.toNatClampNeg 0) a0)) := by rw [eσ6]; exact kq_far (kq_ne hS_tp hS_m_ kq_nao) hS_tp
      have nhS_m_ : σ6 m_ = .inr (8, [.ref la, .ref mn, .ref it, .ref sp, .int 0, .ref tp, .int 1, .int 0, .int 0, .int 0, .int 0, .int 0, .int 0, .ref nw, .ref dr, .ref tr, .ref pa, .int 0, .ref im, .ref kp, .ref me, .ref tc, .int 0]) := by rw [eσ6]; exact va_up_self _ _ _
      have hS_la := nhS_la
      have hS_mn := nhS_mn
      have hS_it := nhS_it
      have hS_nw := nhS_nw
      have hS_dr := nhS_dr
      have hS_kp := nhS_kp
      have hS_tp := nhS_tp
      have hS_m_ := nhS_m_
      refine lv_aload_n hx hb dX8_feed_46 rfl (lv_at hl 0 rfl) ?_
      refine kq_get (ci := 8) (v := .int 1) (C := RX8) (T := TX8) (N := 23) hx hb hts (by decide +kernel) hown hK hw hL_m_ hS_m_ rfl 6 (by decide) (hts (.fieldLink RX8 82 "WrongWordModel" "taped" "I") (by decide +kernel)) rfl dX8_feed_47 ?_
      exact kq_iret hx hb hr hlocks hw (Nat.le_of_ble_eq_true rfl) (Nat.le_of_ble_eq_true rfl) dX8_feed_50 (by unfold sp_feed; rw [if_neg (not_or.mpr ⟨hlo_r1, hhi_r1⟩)])
    · skip
      exact absurd c3 (by decide)
  · skip
    have hz_r1 := sp_in_z (a := a0) (lo := 0) (hi := 255) (by rw [← er1]; exact c2)
    refine lv_ldc (v := (-1000001)) hx hb hown (hts (.constant RX8 64 (-1000001)) (by decide +kernel)) dX8_feed_11 ?_
    exact kq_iret hx hb hr hlocks hw (Nat.le_of_ble_eq_true rfl) (Nat.le_of_ble_eq_true rfl) dX8_feed_13 (by unfold sp_feed; rw [if_pos hz_r1])
abbrev rmX8_set : Room := { frames := 2, cells := 0, slots := 0, locals := 42 }
set_option maxHeartbeats 4000000 in
set_option maxRecDepth 100000 in
theorem f_X8_set (l : Launch) (E : kq_T) (L : List Nat) (σ : Nat → va_E) {m_ : Nat} (hF : fr_M E L σ m_) (a0 a1 a2 : Int32) : kq_I l E yX8_set wsX8_set rmX8_set [.ref m_, .int a0, .int a1, .int a2] L σ (fun r _ _ => r = sp_r1 a0) := by
  have hF0 := hF
  obtain ⟨la, mn, it, sp, tp, nw, dr, tr, pa, im, kp, me, tc, fl, hL_m_, hS_m_, hL_la, hS_la, hL_mn, hS_mn, hL_it, hS_it, hL_tp, hS_tp, hL_nw, hS_nw, hL_dr, hS_dr, hL_kp, hS_kp, hlm, hfl⟩ := hF
  refine kq_enterI (cc := cX8_set) (maxL := 4) (ret := (some .int)) (by decide) rfl (Nat.le_of_ble_eq_true rfl) rfl ?_
  intro p e s m below meth c A ls C hK hw hl
  obtain ⟨hx, hb, hml, hown, hts, hr, hlocks, hnm⟩ := C
  have hown : s.vm.findClass RX8 = some m.cls := hown
  have hl : lv_has ls 4 [(0, .ref m_), (1, .int a0), (2, .int a1), (3, .int a2)] := hl
  refine lv_iload_n hx hb dX8_set_0 rfl (lv_at hl 1 rfl) ?_
  refine kq_callS (As := [.int a0]) (rest := []) (n := 1) (mc := 0) (ms := 0) ⟨hx, hb, hml, hown, hts⟩ (c_X8_isRow l E L σ a0) gX8_set_X8_isRow rfl (by decide +kernel) ⟨Nat.le_of_ble_eq_true rfl, Nat.le_of_ble_eq_true rfl⟩ hK hw rfl hl.1 rfl (Nat.le_of_ble_eq_true rfl) dX8_set_1 rfl rfl ⟨Nat.le_of_ble_eq_true rfl, Nat.le_of_ble_eq_true rfl⟩ (fun r1 Lv σv H locs hp hw => ?_)
  obtain ⟨er1, rfl, rfl⟩ := hp
  refine lv_if_ne (tgt := 10) hx hb dX8_set_4 (by decide) (fun c2 => ?_) (fun c2 => ?_)
  · skip
    obtain ⟨hlo_r1, hhi_r1⟩ := sp_in_nz (a := a0) (lo := 0) (hi := 7) (by rw [← er1]; exact c2)
    refine lv_aload_n hx hb dX8_set_10 rfl (lv_at hl 0 rfl) ?_
    refine lv_iload_n hx hb dX8_set_11 rfl (lv_at hl 1 rfl) ?_
    have hin_r1 : vp_in a0 8 := kq_in hlo_r1 (n := 8) (by decide) (fun h9 => hhi_r1 (kq_s7.mpr h9))
    refine kq_callI (As := [.int a0]) (rest := []) (n := 1) (q := (RX8, TX8, 23)) (ci := 8) (mc := 0) (ms := 0) ⟨hx, hb, hml, hown, hts⟩ (c_X8_isMissing l E L σ hF0 a0 hin_r1) gX8_set_X8_isMissing rfl (by decide +kernel) ⟨Nat.le_of_ble_eq_true rfl, Nat.le_of_ble_eq_true rfl⟩ hK hw hL_m_ hS_m_ rfl rfl hl.1 rfl (Nat.le_of_ble_eq_true rfl) dX8_set_12 rfl rfl ⟨Nat.le_of_ble_eq_true rfl, Nat.le_of_ble_eq_true rfl⟩ (fun r3 Lv σv H locs hp hw => ?_)
    obtain ⟨er3, rfl, rfl⟩ := hp
    have er3 : r3 = 1 := er3
    subst er3
    refine lv_if_eq (tgt := 24) hx hb dX8_set_15 (by decide) (fun c4 => ?_) (fun c4 => ?_)
    · skip
      exact absurd c4 (by decide)
    · skip
      refine lv_aload_n hx hb dX8_set_18 rfl (lv_at hl 0 rfl) ?_
      refine lv_iconst (v := 1) hx hb dX8_set_19 (by decide) ?_
      refine kq_callI (As := [.int 1]) (rest := []) (n := 1) (q := (RX8, TX8, 23)) (ci := 8) (mc := 0) (ms := 0) ⟨hx, hb, hml, hown, hts⟩ (c_X8_found l E L σ 1 hL_m_ hS_m_) gX8_set_X8_found rfl (by decide +kernel) ⟨Nat.le_of_ble_eq_true rfl, Nat.le_of_ble_eq_true rfl⟩ hK hw hL_m_ hS_m_ rfl rfl hl.1 rfl (Nat.le_of_ble_eq_true rfl) dX8_set_20 rfl rfl ⟨Nat.le_of_ble_eq_true rfl, Nat.le_of_ble_eq_true rfl⟩ (fun r5 Lv σv H locs er5 hw => ?_)
      exact kq_iret hx hb hr hlocks hw (Nat.le_of_ble_eq_true rfl) (Nat.le_of_ble_eq_true rfl) dX8_set_23 (by rw [er5]; unfold sp_r1; rw [if_neg (not_or.mpr ⟨hlo_r1, fun h9 => hhi_r1 (kq_s7.mpr h9)⟩)]; rfl)
  · skip
    have hz_r1 := sp_in_z (a := a0) (lo := 0) (hi := 7) (by rw [← er1]; exact c2)
    refine lv_ldc (v := (-1000001)) hx hb hown (hts (.constant RX8 64 (-1000001)) (by decide +kernel)) dX8_set_7 ?_
    exact kq_iret hx hb hr hlocks hw (Nat.le_of_ble_eq_true rfl) (Nat.le_of_ble_eq_true rfl) dX8_set_9 (by unfold sp_r1; rw [if_pos (hz_r1.imp id (fun h9 => kq_s7.mp h9))])
abbrev rmX8_drop : Room := { frames := 2, cells := 0, slots := 0, locals := 42 }
set_option maxHeartbeats 4000000 in
set_option maxRecDepth 100000 in
theorem f_X8_drop (l : Launch) (E : kq_T) (L : List Nat) (σ : Nat → va_E) {m_ : Nat} (hF : fr_M E L σ m_) (a0 : Int32) : kq_I l E yX8_drop wsX8_drop rmX8_drop [.ref m_, .int a0] L σ (fun r _ _ => r = sp_r1 a0) := by
  have hF0 := hF
  obtain ⟨la, mn, it, sp, tp, nw, dr, tr, pa, im, kp, me, tc, fl, hL_m_, hS_m_, hL_la, hS_la, hL_mn, hS_mn, hL_it, hS_it, hL_tp, hS_tp, hL_nw, hS_nw, hL_dr, hS_dr, hL_kp, hS_kp, hlm, hfl⟩ := hF
  refine kq_enterI (cc := cX8_drop) (maxL := 2) (ret := (some .int)) (by decide) rfl (Nat.le_of_ble_eq_true rfl) rfl ?_
  intro p e s m below meth c A ls C hK hw hl
  obtain ⟨hx, hb, hml, hown, hts, hr, hlocks, hnm⟩ := C
  have hown : s.vm.findClass RX8 = some m.cls := hown
  have hl : lv_has ls 2 [(0, .ref m_), (1, .int a0)] := hl
  refine lv_iload_n hx hb dX8_drop_0 rfl (lv_at hl 1 rfl) ?_
  refine kq_callS (As := [.int a0]) (rest := []) (n := 1) (mc := 0) (ms := 0) ⟨hx, hb, hml, hown, hts⟩ (c_X8_isRow l E L σ a0) gX8_drop_X8_isRow rfl (by decide +kernel) ⟨Nat.le_of_ble_eq_true rfl, Nat.le_of_ble_eq_true rfl⟩ hK hw rfl hl.1 rfl (Nat.le_of_ble_eq_true rfl) dX8_drop_1 rfl rfl ⟨Nat.le_of_ble_eq_true rfl, Nat.le_of_ble_eq_true rfl⟩ (fun r1 Lv σv H locs hp hw => ?_)
  obtain ⟨er1, rfl, rfl⟩ := hp
  refine lv_if_ne (tgt := 10) hx hb dX8_drop_4 (by decide) (fun c2 => ?_) (fun c2 => ?_)
  · skip
    obtain ⟨hlo_r1, hhi_r1⟩ := sp_in_nz (a := a0) (lo := 0) (hi := 7) (by rw [← er1]; exact c2)
    refine lv_aload_n hx hb dX8_drop_10 rfl (lv_at hl 0 rfl) ?_
    refine lv_iload_n hx hb dX8_drop_11 rfl (lv_at hl 1 rfl) ?_
    have hin_r1 : vp_in a0 8 := kq_in hlo_r1 (n := 8) (by decide) (fun h9 => hhi_r1 (kq_s7.mpr h9))
    refine kq_callI (As := [.int a0]) (rest := []) (n := 1) (q := (RX8, TX8, 23)) (ci := 8) (mc := 0) (ms := 0) ⟨hx, hb, hml, hown, hts⟩ (c_X8_isMissing l E L σ hF0 a0 hin_r1) gX8_drop_X8_isMissing rfl (by decide +kernel) ⟨Nat.le_of_ble_eq_true rfl, Nat.le_of_ble_eq_true rfl⟩ hK hw hL_m_ hS_m_ rfl rfl hl.1 rfl (Nat.le_of_ble_eq_true rfl) dX8_drop_12 rfl rfl ⟨Nat.le_of_ble_eq_true rfl, Nat.le_of_ble_eq_true rfl⟩ (fun r3 Lv σv H locs hp hw => ?_)
    obtain ⟨er3, rfl, rfl⟩ := hp
    have er3 : r3 = 1 := er3
    subst er3
    refine lv_if_eq (tgt := 24) hx hb dX8_drop_15 (by decide) (fun c4 => ?_) (fun c4 => ?_)
    · skip
      exact absurd c4 (by decide)
    · skip
      refine lv_aload_n hx hb dX8_drop_18 rfl (lv_at hl 0 rfl) ?_
      refine lv_iconst (v := 1) hx hb dX8_drop_19 (by decide) ?_
      refine kq_callI (As := [.int 1]) (rest := []) (n := 1) (q := (RX8, TX8, 23)) (ci := 8) (mc := 0) (ms := 0) ⟨hx, hb, hml, hown, hts⟩ (c_X8_found l E L σ 1 hL_m_ hS_m_) gX8_drop_X8_found rfl (by decide +kernel) ⟨Nat.le_of_ble_eq_true rfl, Nat.le_of_ble_eq_true rfl⟩ hK hw hL_m_ hS_m_ rfl rfl hl.1 rfl (Nat.le_of_ble_eq_true rfl) dX8_drop_20 rfl rfl ⟨Nat.le_of_ble_eq_true rfl, Nat.le_of_ble_eq_true rfl⟩ (fun r5 Lv σv H locs er5 hw => ?_)
      exact kq_iret hx hb hr hlocks hw (Nat.le_of_ble_eq_true rfl) (Nat.le_of_ble_eq_true rfl) dX8_drop_23 (by rw [er5]; unfold sp_r1; rw [if_neg (not_or.mpr ⟨hlo_r1, fun h9 => hhi_r1 (kq_s7.mpr h9)⟩)]; rfl)
  · skip
    have hz_r1 := sp_in_z (a := a0) (lo := 0) (hi := 7) (by rw [← er1]; exact c2)
    refine lv_ldc (v := (-1000001)) hx hb hown (hts (.constant RX8 64 (-1000001)) (by decide +kernel)) dX8_drop_7 ?_
    exact kq_iret hx hb hr hlocks hw (Nat.le_of_ble_eq_true rfl) (Nat.le_of_ble_eq_true rfl) dX8_drop_9 (by unfold sp_r1; rw [if_pos (hz_r1.imp id (fun h9 => kq_s7.mp h9))])
abbrev rmX8_copy : Room := { frames := 2, cells := 0, slots := 0, locals := 42 }
set_option maxHeartbeats 4000000 in
set_option maxRecDepth 100000 in
theorem f_X8_copy (l : Launch) (E : kq_T) (L : List Nat) (σ : Nat → va_E) {m_ : Nat} (hF : fr_M E L σ m_) (a0 a1 a2 a3 a4 : Int32) : kq_I l E yX8_copy wsX8_copy rmX8_copy [.ref m_, .int a0, .int a1, .int a2, .int a3, .int a4] L σ (fun r _ _ => r = sp_copy a0 a2) := by
  have hF0 := hF
  obtain ⟨la, mn, it, sp, tp, nw, dr, tr, pa, im, kp, me, tc, fl, hL_m_, hS_m_, hL_la, hS_la, hL_mn, hS_mn, hL_it, hS_it, hL_tp, hS_tp, hL_nw, hS_nw, hL_dr, hS_dr, hL_kp, hS_kp, hlm, hfl⟩ := hF
  refine kq_enterI (cc := cX8_copy) (maxL := 7) (ret := (some .int)) (by decide) rfl (Nat.le_of_ble_eq_true rfl) rfl ?_
  intro p e s m below meth c A ls C hK hw hl
  obtain ⟨hx, hb, hml, hown, hts, hr, hlocks, hnm⟩ := C
  have hown : s.vm.findClass RX8 = some m.cls := hown
  have hl : lv_has ls 7 [(0, .ref m_), (1, .int a0), (2, .int a1), (3, .int a2), (4, .int a3), (5, .int a4)] := hl
  refine lv_iload_n hx hb dX8_copy_0 rfl (lv_at hl 1 rfl) ?_
  refine kq_callS (As := [.int a0]) (rest := []) (n := 1) (mc := 0) (ms := 0) ⟨hx, hb, hml, hown, hts⟩ (c_X8_isRow l E L σ a0) gX8_copy_X8_isRow rfl (by decide +kernel) ⟨Nat.le_of_ble_eq_true rfl, Nat.le_of_ble_eq_true rfl⟩ hK hw rfl hl.1 rfl (Nat.le_of_ble_eq_true rfl) dX8_copy_1 rfl rfl ⟨Nat.le_of_ble_eq_true rfl, Nat.le_of_ble_eq_true rfl⟩ (fun r1 Lv σv H locs hp hw => ?_)
  obtain ⟨er1, rfl, rfl⟩ := hp
  refine lv_if_eq (tgt := 14) hx hb dX8_copy_4 (by decide) (fun c2 => ?_) (fun c2 => ?_)
  · skip
    have hz_r1 := sp_in_z (a := a0) (lo := 0) (hi := 7) (by rw [← er1]; exact c2)
    refine lv_ldc (v := (-1000001)) hx hb hown (hts (.constant RX8 64 (-1000001)) (by decide +kernel)) dX8_copy_14 ?_
    exact kq_iret hx hb hr hlocks hw (Nat.le_of_ble_eq_true rfl) (Nat.le_of_ble_eq_true rfl) dX8_copy_16 (by unfold sp_copy; rw [if_pos (hz_r1.imp id (fun h9 => kq_s7.mp h9))])
  · skip
    obtain ⟨hlo_r1, hhi_r1⟩ := sp_in_nz (a := a0) (lo := 0) (hi := 7) (by rw [← er1]; exact c2)
    refine lv_iload_n hx hb dX8_copy_7 rfl (lv_at hl 3 rfl) ?_
    refine kq_callS (As := [.int a2]) (rest := []) (n := 1) (mc := 0) (ms := 0) ⟨hx, hb, hml, hown, hts⟩ (c_X8_isRow l E L σ a2) gX8_copy_X8_isRow rfl (by decide +kernel) ⟨Nat.le_of_ble_eq_true rfl, Nat.le_of_ble_eq_true rfl⟩ hK hw rfl hl.1 rfl (Nat.le_of_ble_eq_true rfl) dX8_copy_8 rfl rfl ⟨Nat.le_of_ble_eq_true rfl, Nat.le_of_ble_eq_true rfl⟩ (fun r3 Lv σv H locs hp hw => ?_)
    obtain ⟨er3, rfl, rfl⟩ := hp
    refine lv_if_ne (tgt := 17) hx hb dX8_copy_11 (by decide) (fun c4 => ?_) (fun c4 => ?_)
    · skip
      obtain ⟨hlo_r3, hhi_r3⟩ := sp_in_nz (a := a2) (lo := 0) (hi := 7) (by rw [← er3]; exact c4)
      refine lv_aload_n hx hb dX8_copy_17 rfl (lv_at hl 0 rfl) ?_
      refine lv_iload_n hx hb dX8_copy_18 rfl (lv_at hl 1 rfl) ?_
      have hin_r1 : vp_in a0 8 := kq_in hlo_r1 (n := 8) (by decide) (fun h9 => hhi_r1 (kq_s7.mpr h9))
      refine kq_callI (As := [.int a0]) (rest := []) (n := 1) (q := (RX8, TX8, 23)) (ci := 8) (mc := 0) (ms := 0) ⟨hx, hb, hml, hown, hts⟩ (c_X8_isMissing l E L σ hF0 a0 hin_r1) gX8_copy_X8_isMissing rfl (by decide +kernel) ⟨Nat.le_of_ble_eq_true rfl, Nat.le_of_ble_eq_true rfl⟩ hK hw hL_m_ hS_m_ rfl rfl hl.1 rfl (Nat.le_of_ble_eq_true rfl) dX8_copy_19 rfl rfl ⟨Nat.le_of_ble_eq_true rfl, Nat.le_of_ble_eq_true rfl⟩ (fun r5 Lv σv H locs hp hw => ?_)
      obtain ⟨er5, rfl, rfl⟩ := hp
      have er5 : r5 = 1 := er5
      subst er5
      refine lv_if_ne (tgt := 33) hx hb dX8_copy_22 (by decide) (fun c6 => ?_) (fun c6 => ?_)
      · skip
        refine lv_aload_n hx hb dX8_copy_33 rfl (lv_at hl 0 rfl) ?_
        refine lv_iconst (v := 1) hx hb dX8_copy_34 (by decide) ?_
        refine kq_callI (As := [.int 1]) (rest := []) (n := 1) (q := (RX8, TX8, 23)) (ci := 8) (mc := 0) (ms := 0) ⟨hx, hb, hml, hown, hts⟩ (c_X8_found l E L σ 1 hL_m_ hS_m_) gX8_copy_X8_found rfl (by decide +kernel) ⟨Nat.le_of_ble_eq_true rfl, Nat.le_of_ble_eq_true rfl⟩ hK hw hL_m_ hS_m_ rfl rfl hl.1 rfl (Nat.le_of_ble_eq_true rfl) dX8_copy_35 rfl rfl ⟨Nat.le_of_ble_eq_true rfl, Nat.le_of_ble_eq_true rfl⟩ (fun r7 Lv σv H locs er7 hw => ?_)
        exact kq_iret hx hb hr hlocks hw (Nat.le_of_ble_eq_true rfl) (Nat.le_of_ble_eq_true rfl) dX8_copy_38 (by rw [er7]; unfold sp_copy; rw [if_neg (not_or.mpr ⟨hlo_r1, fun h9 => hhi_r1 (kq_s7.mpr h9)⟩), if_neg (not_or.mpr ⟨hlo_r3, fun h9 => hhi_r3 (kq_s7.mpr h9)⟩)]; rfl)
      · skip
        exact absurd c6 (by decide)
    · skip
      have hz_r3 := sp_in_z (a := a2) (lo := 0) (hi := 7) (by rw [← er3]; exact c4)
      refine lv_ldc (v := (-1000001)) hx hb hown (hts (.constant RX8 64 (-1000001)) (by decide +kernel)) dX8_copy_14 ?_
      exact kq_iret hx hb hr hlocks hw (Nat.le_of_ble_eq_true rfl) (Nat.le_of_ble_eq_true rfl) dX8_copy_16 (by unfold sp_copy; rw [if_neg (not_or.mpr ⟨hlo_r1, fun h9 => hhi_r1 (kq_s7.mpr h9)⟩), if_pos (hz_r3.imp id (fun h9 => kq_s7.mp h9))])
theorem kq_ix40 {a : Int32} {i : Nat} (h1 : ¬ a < 0) (h2 : ¬ (7 : Int32) < a) (hi : i < 40) : vp_in (40 * a + nI i) 320 := by
  obtain ⟨j, hj, rfl⟩ := nI_of h1
  have hj8 : j < 8 := by
    rcases Nat.lt_or_ge j 8 with q | q
    · exact q
    · exact absurd (kq_s7.mpr (nI_le q hj)) h2
  have e1 : (40 : Int32) * nI j + nI i = nI (40 * j + i) := by
    show Int32.ofNat 40 * Int32.ofNat j + Int32.ofNat i = Int32.ofNat (40 * j + i)
    rw [Int32.ofNat_add, Int32.ofNat_mul]
  rw [e1]
  exact vp_in_nI (by omega) (by decide)
abbrev rmX8_row : Room := { frames := 2, cells := 0, slots := 0, locals := 42 }
set_option maxHeartbeats 4000000 in
set_option maxRecDepth 100000 in
theorem f_X8_row (l : Launch) (E : kq_T) (L : List Nat) (σ : Nat → va_E) {m_ : Nat} (hF : fr_M E L σ m_) (a0 a1 a2 : Int32) : kq_I l E yX8_row wsX8_row rmX8_row [.ref m_, .int a0, .int a1, .int a2] L σ (fun r _ _ => r = sp_row a0 a1 a2) := by
  have hF0 := hF
  obtain ⟨la, mn, it, sp, tp, nw, dr, tr, pa, im, kp, me, tc, fl, hL_m_, hS_m_, hL_la, hS_la, hL_mn, hS_mn, hL_it, hS_it, hL_tp, hS_tp, hL_nw, hS_nw, hL_dr, hS_dr, hL_kp, hS_kp, hlm, hfl⟩ := hF
  refine kq_enterI (cc := cX8_row) (maxL := 5) (ret := (some .int)) (by decide) rfl (Nat.le_of_ble_eq_true rfl) rfl ?_
  intro p e s m below meth c A ls C hK hw hl
  obtain ⟨hx, hb, hml, hown, hts, hr, hlocks, hnm⟩ := C
  have hown : s.vm.findClass RX8 = some m.cls := hown
  have hl : lv_has ls 5 [(0, .ref m_), (1, .int a0), (2, .int a1), (3, .int a2)] := hl
  refine lv_iload_n hx hb dX8_row_0 rfl (lv_at hl 1 rfl) ?_
  refine kq_callS (As := [.int a0]) (rest := []) (n := 1) (mc := 0) (ms := 0) ⟨hx, hb, hml, hown, hts⟩ (c_X8_isRow l E L σ a0) gX8_row_X8_isRow rfl (by decide +kernel) ⟨Nat.le_of_ble_eq_true rfl, Nat.le_of_ble_eq_true rfl⟩ hK hw rfl hl.1 rfl (Nat.le_of_ble_eq_true rfl) dX8_row_1 rfl rfl ⟨Nat.le_of_ble_eq_true rfl, Nat.le_of_ble_eq_true rfl⟩ (fun r1 Lv σv H locs hp hw => ?_)
  obtain ⟨er1, rfl, rfl⟩ := hp
  refine lv_if_eq (tgt := 22) hx hb dX8_row_4 (by decide) (fun c2 => ?_) (fun c2 => ?_)
  · skip
    have hz_r1 := sp_in_z (a := a0) (lo := 0) (hi := 7) (by rw [← er1]; exact c2)
    refine lv_ldc (v := (-1000001)) hx hb hown (hts (.constant RX8 64 (-1000001)) (by decide +kernel)) dX8_row_22 ?_
    exact kq_iret hx hb hr hlocks hw (Nat.le_of_ble_eq_true rfl) (Nat.le_of_ble_eq_true rfl) dX8_row_24 (by unfold sp_row; rw [if_pos (hz_r1.imp id (fun h9 => kq_s7.mp h9))])
  · skip
    obtain ⟨hlo_r1, hhi_r1⟩ := sp_in_nz (a := a0) (lo := 0) (hi := 7) (by rw [← er1]; exact c2)
    refine lv_iload_n hx hb dX8_row_7 rfl (lv_at hl 2 rfl) ?_
    refine lv_iconst (v := 0) hx hb dX8_row_8 (by decide) ?_
    refine lv_iconst (v := 2) hx hb dX8_row_9 (by decide) ?_
    refine kq_callS (As := [.int a1, .int 0, .int 2]) (rest := []) (n := 3) (mc := 0) (ms := 0) ⟨hx, hb, hml, hown, hts⟩ (c_X8_in l E L σ a1 0 2) gX8_row_X8_in rfl (by decide +kernel) ⟨Nat.le_of_ble_eq_true rfl, Nat.le_of_ble_eq_true rfl⟩ hK hw rfl hl.1 rfl (Nat.le_of_ble_eq_true rfl) dX8_row_10 rfl rfl ⟨Nat.le_of_ble_eq_true rfl, Nat.le_of_ble_eq_true rfl⟩ (fun r3 Lv σv H locs hp hw => ?_)
    obtain ⟨er3, rfl, rfl⟩ := hp
    refine lv_if_eq (tgt := 22) hx hb dX8_row_13 (by decide) (fun c4 => ?_) (fun c4 => ?_)
    · skip
      have hz_r3 := sp_in_z (a := a1) (lo := 0) (hi := 2) (by rw [← er3]; exact c4)
      refine lv_ldc (v := (-1000001)) hx hb hown (hts (.constant RX8 64 (-1000001)) (by decide +kernel)) dX8_row_22 ?_
      exact kq_iret hx hb hr hlocks hw (Nat.le_of_ble_eq_true rfl) (Nat.le_of_ble_eq_true rfl) dX8_row_24 (by unfold sp_row; rw [if_neg (not_or.mpr ⟨hlo_r1, fun h9 => hhi_r1 (kq_s7.mpr h9)⟩)]; rcases hz_r3 with h9 | h9 <;> simp [h9])
    · skip
      obtain ⟨hlo_r3, hhi_r3⟩ := sp_in_nz (a := a1) (lo := 0) (hi := 2) (by rw [← er3]; exact c4)
      refine lv_iload_n hx hb dX8_row_16 rfl (lv_at hl 3 rfl) ?_
      refine lv_bipush (v := 40) hx hb dX8_row_17 (by decide) ?_
      refine lv_icmp_le (tgt := 25) hx hb dX8_row_19 (by decide) (fun c5 => ?_) (fun c5 => ?_)
      · skip
        refine lv_iload_n hx hb dX8_row_25 rfl (lv_at hl 3 rfl) ?_
        refine lv_if_ge (tgt := 35) hx hb dX8_row_26 (by decide) (fun c6 => ?_) (fun c6 => ?_)
        · skip
          refine lv_aload_n hx hb dX8_row_35 rfl (lv_at hl 0 rfl) ?_
          refine kq_get (ci := 8) (v := .ref la) (C := RX8) (T := TX8) (N := 23) hx hb hts (by decide +kernel) hown hK hw hL_m_ hS_m_ rfl 0 (by decide) (hts (.fieldLink RX8 7 "WrongWordModel" "lane" "[I") (by decide +kernel)) rfl dX8_row_36 ?_
          refine lv_iload_n hx hb dX8_row_39 rfl (lv_at hl 1 rfl) ?_
          refine lv_iload_n hx hb dX8_row_40 rfl (lv_at hl 2 rfl) ?_
          refine kq_iast hx hb hK hw hL_la hS_la (kq_in hlo_r1 (n := 8) (by decide) (fun h9 => hhi_r1 (kq_s7.mpr h9))) dX8_row_41 (fun H locs σ7 eσ7 hw => ?_)
          have nhS_m_ : σ7 m_ = .inr (8, [.ref la, .ref mn, .ref it, .ref sp, .int 0, .ref tp, .int 0, .int 0, .int 0, .int 0, .int 0, .int 0, .int 0, .ref nw, .ref dr, .ref tr, .ref pa, .int 0, .ref im, .ref kp, .ref me, .ref tc, .int 0]) := by rw [eσ7]; exact kq_far (kq_ne hS_m_ hS_la kq_noa) hS_m_
          have nhS_mn : σ7 mn = .inl (E.2 0, 8, .inl (fun _ => 0)) := by rw [eσ7]; exact kq_far (Ne.symm hlm) hS_mn
          have nhS_it : σ7 it = .inl (E.2 0, 320, .inl (fun _ => 0)) := by rw [eσ7]; exact kq_far (kq_ne hS_it hS_la (kq_nlen (by decide))) hS_it
          have nhS_tp : σ7 tp = .inl (E.2 0, 100, .inl (fun _ => 0)) := by rw [eσ7]; exact kq_far (kq_ne hS_tp hS_la (kq_nlen (by decide))) hS_tp
          have nhS_nw : σ7 nw = .inl (E.2 0, 65, .inl (fun _ => 0)) := by rw [eσ7]; exact kq_far (kq_ne hS_nw hS_la (kq_nlen (by decide))) hS_nw
          have nhS_dr : σ7 dr = .inl (E.2 0, 65, .inl (fun _ => 0)) := by rw [eσ7]; exact kq_far (kq_ne hS_dr hS_la (kq_nlen (by decide))) hS_dr
          have nhS_kp : σ7 kp = .inl (E.2 1, 2, .inl (fun _ => 0)) := by rw [eσ7]; exact kq_far (kq_ne hS_kp hS_la (kq_nlen (by decide))) hS_kp
          have nhS_la : σ7 la = .inl (E.2 0, 8, .inl (upd fl (Int32.toNatClampNeg a0) a1)) := by rw [eσ7]; exact va_up_self _ _ _
          have hS_m_ := nhS_m_
          have hS_mn := nhS_mn
          have hS_it := nhS_it
          have hS_tp := nhS_tp
          have hS_nw := nhS_nw
          have hS_dr := nhS_dr
          have hS_kp := nhS_kp
          have hS_la := nhS_la
          refine lv_aload_n hx hb dX8_row_42 rfl (lv_at hl 0 rfl) ?_
          refine kq_get (ci := 8) (v := .ref mn) (C := RX8) (T := TX8) (N := 23) hx hb hts (by decide +kernel) hown hK hw hL_m_ hS_m_ rfl 1 (by decide) (hts (.fieldLink RX8 13 "WrongWordModel" "many" "[I") (by decide +kernel)) rfl dX8_row_43 ?_
          refine lv_iload_n hx hb dX8_row_46 rfl (lv_at hl 1 rfl) ?_
          refine lv_iload_n hx hb dX8_row_47 rfl (lv_at hl 3 rfl) ?_
          refine kq_iast hx hb hK hw hL_mn hS_mn (kq_in hlo_r1 (n := 8) (by decide) (fun h9 => hhi_r1 (kq_s7.mpr h9))) dX8_row_48 (fun H locs σ8 eσ8 hw => ?_)
          have nhS_m_ : σ8 m_ = .inr (8, [.ref la, .ref mn, .ref it, .ref sp, .int 0, .ref tp, .int 0, .int 0, .int 0, .int 0, .int 0, .int 0, .int 0, .ref nw, .ref dr, .ref tr, .ref pa, .int 0, .ref im, .ref kp, .ref me, .ref tc, .int 0]) := by rw [eσ8]; exact kq_far (kq_ne hS_m_ hS_mn kq_noa) hS_m_
          have nhS_it : σ8 it = .inl (E.2 0, 320, .inl (fun _ => 0)) := by rw [eσ8]; exact kq_far (kq_ne hS_it hS_mn (kq_nlen (by decide))) hS_it
          have nhS_tp : σ8 tp = .inl (E.2 0, 100, .inl (fun _ => 0)) := by rw [eσ8]; exact kq_far (kq_ne hS_tp hS_mn (kq_nlen (by decide))) hS_tp
          have nhS_nw : σ8 nw = .inl (E.2 0, 65, .inl (fun _ => 0)) := by rw [eσ8]; exact kq_far (kq_ne hS_nw hS_mn (kq_nlen (by decide))) hS_nw
          have nhS_dr : σ8 dr = .inl (E.2 0, 65, .inl (fun _ => 0)) := by rw [eσ8]; exact kq_far (kq_ne hS_dr hS_mn (kq_nlen (by decide))) hS_dr
          have nhS_kp : σ8 kp = .inl (E.2 1, 2, .inl (fun _ => 0)) := by rw [eσ8]; exact kq_far (kq_ne hS_kp hS_mn (kq_nlen (by decide))) hS_kp
          have nhS_la : σ8 la = .inl (E.2 0, 8, .inl (upd fl (Int32.toNatClampNeg a0) a1)) := by rw [eσ8]; exact kq_far hlm hS_la
          have nhS_mn : σ8 mn = .inl (E.2 0, 8, .inl (upd (fun _ => 0) (Int32.toNatClampNeg a0) a2)) := by rw [eσ8]; exact va_up_self _ _ _
          have hS_m_ := nhS_m_
          have hS_it := nhS_it
          have hS_tp := nhS_tp
          have hS_nw := nhS_nw
          have hS_dr := nhS_dr
          have hS_kp := nhS_kp
          have hS_la := nhS_la
          have hS_mn := nhS_mn
          refine lv_iconst (v := 0) hx hb dX8_row_49 (by decide) ?_
          refine lv_istore (lv' := [(4, .int 0), (0, .ref m_), (1, .int a0), (2, .int a1), (3, .int a2)]) hx hb dX8_row_50 hl (by decide) rfl (fun ls hl => ?_)
          refine kq_for (nL := 5) 40 (fun i Lv σv => L = Lv ∧ (∀ b, b ≠ it → σv b = σ8 b) ∧ ∃ f, σv it = .inl (E.2 0, 320, .inl f)) (fun i => [(4, .int (nI i)), (0, .ref m_), (1, .int a0), (2, .int a1), (3, .int a2)]) 0 0 ⟨rfl, fun _ _ => rfl, _, hS_it⟩ hw hl (fun i Lv σv H locs ls hi hI hw hl ih => ?_) (fun Lv σv H locs ls hI hw hl => ?_)
          · skip
            have hl : lv_has ls 5 [(4, .int (nI i)), (0, .ref m_), (1, .int a0), (2, .int a1), (3, .int a2)] := hl
            obtain ⟨rfl, hfr9, f9, hS_it9⟩ := hI
            have hS_m9 : σv m_ = .inr (8, [.ref la, .ref mn, .ref it, .ref sp, .int 0, .ref tp, .int 0, .int 0, .int 0, .int 0, .int 0, .int 0, .int 0, .ref nw, .ref dr, .ref tr, .ref pa, .int 0, .ref im, .ref kp, .ref me, .ref tc, .int 0]) := (hfr9 m_ (kq_ne hS_m_ hS_it kq_noa)).trans hS_m_
            refine lv_iload hx hb dX8_row_52 (lv_at hl 0 rfl) ?_
            refine lv_bipush (v := 40) hx hb dX8_row_54 (by decide) ?_
            refine lv_icmp_ge (tgt := 78) hx hb dX8_row_56 (by decide) (fun c9 => ?_) (fun c9 => ?_)
            · exact absurd c9 (nI_ge hi (by decide))
            refine lv_aload_n hx hb dX8_row_59 rfl (lv_at hl 1 rfl) ?_
            refine kq_get (ci := 8) (v := .ref it) (C := RX8) (T := TX8) (N := 23) hx hb hts (by decide +kernel) hown hK hw hL_m_ hS_m9 rfl 2 (by decide) (hts (.fieldLink RX8 16 "WrongWordModel" "items" "[I") (by decide +kernel)) rfl dX8_row_60 ?_
            refine lv_bipush (v := 40) hx hb dX8_row_63 (by decide) ?_
            refine lv_iload_n hx hb dX8_row_65 rfl (lv_at hl 2 rfl) ?_
            refine lv_imul hx hb dX8_row_66 ?_
            refine lv_iload hx hb dX8_row_67 (lv_at hl 0 rfl) ?_
            refine lv_iadd hx hb dX8_row_69 ?_
            refine lv_iconst (v := 0) hx hb dX8_row_70 (by decide) ?_
            refine kq_iast hx hb hK hw hL_it hS_it9 (kq_ix40 hlo_r1 hhi_r1 hi) dX8_row_71 (fun H locs σ10 eσ10 hw => ?_)
            have nhS_m_ : σ10 m_ = .inr (8, [.ref la, .ref mn, .ref it, .ref sp, .int 0, .ref tp, .int 0, .int 0, .int 0, .int 0, .int 0, .int 0, .int 0, .ref nw, .ref dr, .ref tr, .ref pa, .int 0, .ref im, .ref kp, .ref me, .ref tc, .int 0]) := by rw [eσ10]; exact kq_far (kq_ne hS_m9 hS_it9 kq_noa) hS_m9
            have nhS_it : σ10 it = .inl (E.2 0, 320, .inl (upd f9 (Int32.toNatClampNeg ((40 * a0) + (nI i))) 0)) := by rw [eσ10]; exact va_up_self _ _ _
            have hS_m_ := nhS_m_
            have hS_it := nhS_it
            refine lv_iinc (v := nI i + 1) (lv' := [(4, .int (nI i + 1)), (0, .ref m_), (1, .int a0), (2, .int a1), (3, .int a2)]) hx hb dX8_row_72 hl (k := 0) rfl rfl (by decide) rfl (fun ls hl => ?_)
            refine lv_goto (tgt := 52) hx hb dX8_row_75 (by decide) ?_
            have hl : lv_has ls 5 [(4, .int (nI (i + 1))), (0, .ref m_), (1, .int a0), (2, .int a1), (3, .int a2)] := by rw [nI_succ]; exact lv_sub hl [0, 1, 2, 3, 4] rfl
            exact W.widen (by omega) (by omega) (ih _ _ _ _ _ ⟨rfl, fun b hb9 => by rw [eσ10, va_up_ne _ _ hb9]; exact hfr9 b hb9, _, hS_it⟩ hw hl)
          · skip
            have hl : lv_has ls 5 [(4, .int (nI 40)), (0, .ref m_), (1, .int a0), (2, .int a1), (3, .int a2)] := hl
            obtain ⟨rfl, hfr9, f9, hS_it9⟩ := hI
            have hS_m9 : σv m_ = .inr (8, [.ref la, .ref mn, .ref it, .ref sp, .int 0, .ref tp, .int 0, .int 0, .int 0, .int 0, .int 0, .int 0, .int 0, .ref nw, .ref dr, .ref tr, .ref pa, .int 0, .ref im, .ref kp, .ref me, .ref tc, .int 0]) := (hfr9 m_ (kq_ne hS_m_ hS_it kq_noa)).trans hS_m_
            refine lv_iload hx hb dX8_row_52 (lv_at hl 0 rfl) ?_
            refine lv_bipush (v := 40) hx hb dX8_row_54 (by decide) ?_
            refine lv_icmp_ge (tgt := 78) hx hb dX8_row_56 (by decide) (fun c11 => ?_) (fun c11 => ?_)
            rotate_left
            · exact absurd (by decide) c11
            refine lv_aload_n hx hb dX8_row_78 rfl (lv_at hl 1 rfl) ?_
            refine lv_iload_n hx hb dX8_row_79 rfl (lv_at hl 4 rfl) ?_
            refine kq_callI (As := [.int a2]) (rest := []) (n := 1) (q := (RX8, TX8, 23)) (ci := 8) (mc := 0) (ms := 0) ⟨hx, hb, hml, hown, hts⟩ (c_X8_well l E L σv a2 hL_m_ hS_m9) gX8_row_X8_well rfl (by decide +kernel) ⟨Nat.le_of_ble_eq_true rfl, Nat.le_of_ble_eq_true rfl⟩ hK hw hL_m_ hS_m9 rfl rfl hl.1 rfl (Nat.le_of_ble_eq_true rfl) dX8_row_80 rfl rfl ⟨Nat.le_of_ble_eq_true rfl, Nat.le_of_ble_eq_true rfl⟩ (fun r12 Lv σv H locs er12 hw => ?_)
            exact kq_iret hx hb hr hlocks hw (Nat.le_of_ble_eq_true rfl) (Nat.le_of_ble_eq_true rfl) dX8_row_83 (by rw [er12]; unfold sp_row; rw [if_neg (not_or.mpr ⟨hlo_r1, fun h9 => hhi_r1 (kq_s7.mpr h9)⟩), if_neg hlo_r3, if_neg hhi_r3]; simp [c2, c4, c5, Int32.not_lt.mpr c5, c6, Int32.not_lt.mpr c6])
        · skip
          refine lv_aload_n hx hb dX8_row_29 rfl (lv_at hl 0 rfl) ?_
          refine lv_iconst (v := 4) hx hb dX8_row_30 (by decide) ?_
          refine kq_callI (As := [.int 4]) (rest := []) (n := 1) (q := (RX8, TX8, 23)) (ci := 8) (mc := 0) (ms := 0) ⟨hx, hb, hml, hown, hts⟩ (c_X8_found l E L σ 4 hL_m_ hS_m_) gX8_row_X8_found rfl (by decide +kernel) ⟨Nat.le_of_ble_eq_true rfl, Nat.le_of_ble_eq_true rfl⟩ hK hw hL_m_ hS_m_ rfl rfl hl.1 rfl (Nat.le_of_ble_eq_true rfl) dX8_row_31 rfl rfl ⟨Nat.le_of_ble_eq_true rfl, Nat.le_of_ble_eq_true rfl⟩ (fun r13 Lv σv H locs er13 hw => ?_)
          exact kq_iret hx hb hr hlocks hw (Nat.le_of_ble_eq_true rfl) (Nat.le_of_ble_eq_true rfl) dX8_row_34 (by rw [er13]; unfold sp_row; rw [if_neg (not_or.mpr ⟨hlo_r1, fun h9 => hhi_r1 (kq_s7.mpr h9)⟩), if_neg hlo_r3, if_neg hhi_r3]; simp [c2, c4, c5, Int32.not_lt.mpr c5, c6, Int32.not_le.mp c6])
      · skip
        refine lv_ldc (v := (-1000001)) hx hb hown (hts (.constant RX8 64 (-1000001)) (by decide +kernel)) dX8_row_22 ?_
        exact kq_iret hx hb hr hlocks hw (Nat.le_of_ble_eq_true rfl) (Nat.le_of_ble_eq_true rfl) dX8_row_24 (by unfold sp_row; rw [if_neg (not_or.mpr ⟨hlo_r1, fun h9 => hhi_r1 (kq_s7.mpr h9)⟩), if_neg hlo_r3, if_neg hhi_r3]; simp [c2, c4, c5, Int32.not_le.mp c5])
abbrev rmX8_count : Room := { frames := 1, cells := 0, slots := 0, locals := 21 }
set_option maxHeartbeats 4000000 in
set_option maxRecDepth 100000 in
theorem f_X8_count (l : Launch) (E : kq_T) (L : List Nat) (σ : Nat → va_E) {m_ : Nat} (hF : fr_M E L σ m_) (a0 : Int32) : kq_I l E yX8_count wsX8_count rmX8_count [.ref m_, .int a0] L σ (fun r _ _ => r = sp_count a0) := by
  have hF0 := hF
  obtain ⟨la, mn, it, sp, tp, nw, dr, tr, pa, im, kp, me, tc, fl, hL_m_, hS_m_, hL_la, hS_la, hL_mn, hS_mn, hL_it, hS_it, hL_tp, hS_tp, hL_nw, hS_nw, hL_dr, hS_dr, hL_kp, hS_kp, hlm, hfl⟩ := hF
  refine kq_enterI (cc := cX8_count) (maxL := 4) (ret := (some .int)) (by decide) rfl (Nat.le_of_ble_eq_true rfl) rfl ?_
  intro p e s m below meth c A ls C hK hw hl
  obtain ⟨hx, hb, hml, hown, hts, hr, hlocks, hnm⟩ := C
  have hown : s.vm.findClass RX8 = some m.cls := hown
  have hl : lv_has ls 4 [(0, .ref m_), (1, .int a0)] := hl
  refine lv_iconst (v := 0) hx hb dX8_count_0 (by decide) ?_
  refine lv_istore_n (lv' := [(2, .int 0), (0, .ref m_), (1, .int a0)]) hx hb dX8_count_1 rfl hl (by decide) rfl (fun ls hl => ?_)
  refine lv_iload_n hx hb dX8_count_2 rfl (lv_at hl 2 rfl) ?_
  by_cases h_out : Int32.toInt a0 < 0 ∨ 9 < Int32.toInt a0
  · skip
    refine lv_tableOut (tgt := 178) hx hb dX8_count_3 h_out (by decide) ?_
    refine lv_ldc (v := (-1000001)) hx hb hown (hts (.constant RX8 64 (-1000001)) (by decide +kernel)) dX8_count_178 ?_
    exact kq_iret hx hb hr hlocks hw (Nat.le_of_ble_eq_true rfl) (Nat.le_of_ble_eq_true rfl) dX8_count_180 (by unfold sp_count; rw [if_pos h_out])
  · skip
    have h_in := not_or.mp h_out
    rcases (show Int32.toInt a0 = 0 ∨ Int32.toInt a0 = 1 ∨ Int32.toInt a0 = 2 ∨ Int32.toInt a0 = 3 ∨ Int32.toInt a0 = 4 ∨ Int32.toInt a0 = 5 ∨ Int32.toInt a0 = 6 ∨ Int32.toInt a0 = 7 ∨ Int32.toInt a0 = 8 ∨ Int32.toInt a0 = 9 by omega) with h_v | h_v | h_v | h_v | h_v | h_v | h_v | h_v | h_v | h_v
    · skip
      refine lv_tableIn (tgt := 56) (off := 53) hx hb dX8_count_3 h_in.1 h_in.2 (by rw [h_v]; rfl) (by decide) ?_
      refine lv_iconst (v := 0) hx hb dX8_count_56 (by decide) ?_
      refine lv_istore_n (lv' := [(3, .int 0), (2, .int 0), (0, .ref m_), (1, .int a0)]) hx hb dX8_count_57 rfl hl (by decide) rfl (fun ls hl => ?_)
      refine kq_for (nL := 4) 8 (fun i Lv σv => L = Lv ∧ σ = σv) (fun i => [(3, .int (nI i)), (2, .int 0), (0, .ref m_), (1, .int a0)]) 0 0 ⟨rfl, rfl⟩ hw hl (fun i Lv σv H locs ls hi hI hw hl ih => ?_) (fun Lv σv H locs ls hI hw hl => ?_)
      · skip
        have hl : lv_has ls 4 [(3, .int (nI i)), (2, .int 0), (0, .ref m_), (1, .int a0)] := hl
        obtain ⟨rfl, rfl⟩ := hI
        refine lv_iload_n hx hb dX8_count_58 rfl (lv_at hl 0 rfl) ?_
        refine lv_bipush (v := 8) hx hb dX8_count_59 (by decide) ?_
        refine lv_icmp_ge (tgt := 86) hx hb dX8_count_61 (by decide) (fun c1 => ?_) (fun c1 => ?_)
        · exact absurd c1 (nI_ge hi (by decide))
        refine lv_iload_n hx hb dX8_count_64 rfl (lv_at hl 1 rfl) ?_
        refine lv_aload_n hx hb dX8_count_65 rfl (lv_at hl 2 rfl) ?_
        refine lv_iload_n hx hb dX8_count_66 rfl (lv_at hl 0 rfl) ?_
        refine kq_callI (As := [.int (nI i)]) (rest := [.int 0]) (n := 1) (q := (RX8, TX8, 23)) (ci := 8) (mc := 0) (ms := 0) ⟨hx, hb, hml, hown, hts⟩ (c_X8_isMissing l E L σ hF0 (nI i) (vp_in_nI hi (by decide))) gX8_count_X8_isMissing rfl (by decide +kernel) ⟨Nat.le_of_ble_eq_true rfl, Nat.le_of_ble_eq_true rfl⟩ hK hw hL_m_ hS_m_ rfl rfl hl.1 rfl (Nat.le_of_ble_eq_true rfl) dX8_count_67 rfl rfl ⟨Nat.le_of_ble_eq_true rfl, Nat.le_of_ble_eq_true rfl⟩ (fun r2 Lv σv H locs hp hw => ?_)
        obtain ⟨er2, rfl, rfl⟩ := hp
        have er2 : r2 = 1 := er2
        subst er2
        refine lv_if_eq (tgt := 77) hx hb dX8_count_70 (by decide) (fun c3 => ?_) (fun c3 => ?_)
        · skip
          exact absurd c3 (by decide)
        · skip
          refine lv_iconst (v := 0) hx hb dX8_count_73 (by decide) ?_
          refine lv_goto (tgt := 78) hx hb dX8_count_74 (by decide) ?_
          refine lv_iadd hx hb dX8_count_78 ?_
          refine lv_topi (fun v4 ev4 => ?_)
          have ev4 : v4 = 0 := by rw [ev4]; decide
          subst ev4
          refine lv_istore_n (lv' := [(2, .int 0), (3, .int (nI i)), (0, .ref m_), (1, .int a0)]) hx hb dX8_count_79 rfl hl (by decide) rfl (fun ls hl => ?_)
          refine lv_iinc (v := nI i + 1) (lv' := [(3, .int (nI i + 1)), (2, .int 0), (0, .ref m_), (1, .int a0)]) hx hb dX8_count_80 hl (k := 1) rfl rfl (by decide) rfl (fun ls hl => ?_)
          refine lv_goto (tgt := 58) hx hb dX8_count_83 (by decide) ?_
          have hl : lv_has ls 4 [(3, .int (nI (i + 1))), (2, .int 0), (0, .ref m_), (1, .int a0)] := by rw [nI_succ]; exact lv_sub hl [0, 1, 2, 3] rfl
          exact W.widen (by omega) (by omega) (ih _ _ _ _ _ ⟨rfl, rfl⟩ hw hl)
      · skip
        have hl : lv_has ls 4 [(3, .int (nI 8)), (2, .int 0), (0, .ref m_), (1, .int a0)] := hl
        obtain ⟨rfl, rfl⟩ := hI
        refine lv_iload_n hx hb dX8_count_58 rfl (lv_at hl 0 rfl) ?_
        refine lv_bipush (v := 8) hx hb dX8_count_59 (by decide) ?_
        refine lv_icmp_ge (tgt := 86) hx hb dX8_count_61 (by decide) (fun c5 => ?_) (fun c5 => ?_)
        rotate_left
        · exact absurd (by decide) c5
        refine lv_iload_n hx hb dX8_count_86 rfl (lv_at hl 1 rfl) ?_
        exact kq_iret hx hb hr hlocks hw (Nat.le_of_ble_eq_true rfl) (Nat.le_of_ble_eq_true rfl) dX8_count_87 (by unfold sp_count; rw [if_neg h_out])
    · skip
      refine lv_tableIn (tgt := 88) (off := 85) hx hb dX8_count_3 h_in.1 h_in.2 (by rw [h_v]; rfl) (by decide) ?_
      refine lv_aload_n hx hb dX8_count_88 rfl (lv_at hl 1 rfl) ?_
      refine kq_get (ci := 8) (v := .ref nw) (C := RX8) (T := TX8) (N := 23) hx hb hts (by decide +kernel) hown hK hw hL_m_ hS_m_ rfl 13 (by decide) (hts (.fieldLink RX8 25 "WrongWordModel" "now" "[I") (by decide +kernel)) rfl dX8_count_89 ?_
      refine lv_iconst (v := 3) hx hb dX8_count_92 (by decide) ?_
      refine kq_iald hx hb hK hw hL_nw hS_nw (by unfold vp_in; decide) dX8_count_93 ?_
      refine lv_topi (fun v6 ev6 => ?_)
      have ev6 : v6 = 0 := ev6
      subst ev6
      exact kq_iret hx hb hr hlocks hw (Nat.le_of_ble_eq_true rfl) (Nat.le_of_ble_eq_true rfl) dX8_count_94 (by unfold sp_count; rw [if_neg h_out])
    · skip
      refine lv_tableIn (tgt := 95) (off := 92) hx hb dX8_count_3 h_in.1 h_in.2 (by rw [h_v]; rfl) (by decide) ?_
      refine lv_aload_n hx hb dX8_count_95 rfl (lv_at hl 1 rfl) ?_
      refine kq_get (ci := 8) (v := .ref nw) (C := RX8) (T := TX8) (N := 23) hx hb hts (by decide +kernel) hown hK hw hL_m_ hS_m_ rfl 13 (by decide) (hts (.fieldLink RX8 25 "WrongWordModel" "now" "[I") (by decide +kernel)) rfl dX8_count_96 ?_
      refine lv_iconst (v := 4) hx hb dX8_count_99 (by decide) ?_
      refine kq_iald hx hb hK hw hL_nw hS_nw (by unfold vp_in; decide) dX8_count_100 ?_
      refine lv_topi (fun v7 ev7 => ?_)
      have ev7 : v7 = 0 := ev7
      subst ev7
      exact kq_iret hx hb hr hlocks hw (Nat.le_of_ble_eq_true rfl) (Nat.le_of_ble_eq_true rfl) dX8_count_101 (by unfold sp_count; rw [if_neg h_out])
    · skip
      refine lv_tableIn (tgt := 102) (off := 99) hx hb dX8_count_3 h_in.1 h_in.2 (by rw [h_v]; rfl) (by decide) ?_
      refine lv_aload_n hx hb dX8_count_102 rfl (lv_at hl 1 rfl) ?_
      refine kq_get (ci := 8) (v := .ref nw) (C := RX8) (T := TX8) (N := 23) hx hb hts (by decide +kernel) hown hK hw hL_m_ hS_m_ rfl 13 (by decide) (hts (.fieldLink RX8 25 "WrongWordModel" "now" "[I") (by decide +kernel)) rfl dX8_count_103 ?_
      refine lv_iconst (v := 5) hx hb dX8_count_106 (by decide) ?_
      refine kq_iald hx hb hK hw hL_nw hS_nw (by unfold vp_in; decide) dX8_count_107 ?_
      refine lv_topi (fun v8 ev8 => ?_)
      have ev8 : v8 = 0 := ev8
      subst ev8
      exact kq_iret hx hb hr hlocks hw (Nat.le_of_ble_eq_true rfl) (Nat.le_of_ble_eq_true rfl) dX8_count_108 (by unfold sp_count; rw [if_neg h_out])
    · skip
      refine lv_tableIn (tgt := 109) (off := 106) hx hb dX8_count_3 h_in.1 h_in.2 (by rw [h_v]; rfl) (by decide) ?_
      refine lv_aload_n hx hb dX8_count_109 rfl (lv_at hl 1 rfl) ?_
      refine kq_get (ci := 8) (v := .ref nw) (C := RX8) (T := TX8) (N := 23) hx hb hts (by decide +kernel) hown hK hw hL_m_ hS_m_ rfl 13 (by decide) (hts (.fieldLink RX8 25 "WrongWordModel" "now" "[I") (by decide +kernel)) rfl dX8_count_110 ?_
      refine lv_bipush (v := 7) hx hb dX8_count_113 (by decide) ?_
      refine kq_iald hx hb hK hw hL_nw hS_nw (by unfold vp_in; decide) dX8_count_115 ?_
      refine lv_topi (fun v9 ev9 => ?_)
      have ev9 : v9 = 0 := ev9
      subst ev9
      exact kq_iret hx hb hr hlocks hw (Nat.le_of_ble_eq_true rfl) (Nat.le_of_ble_eq_true rfl) dX8_count_116 (by unfold sp_count; rw [if_neg h_out])
    · skip
      refine lv_tableIn (tgt := 117) (off := 114) hx hb dX8_count_3 h_in.1 h_in.2 (by rw [h_v]; rfl) (by decide) ?_
      refine lv_aload_n hx hb dX8_count_117 rfl (lv_at hl 1 rfl) ?_
      refine kq_get (ci := 8) (v := .ref nw) (C := RX8) (T := TX8) (N := 23) hx hb hts (by decide +kernel) hown hK hw hL_m_ hS_m_ rfl 13 (by decide) (hts (.fieldLink RX8 25 "WrongWordModel" "now" "[I") (by decide +kernel)) rfl dX8_count_118 ?_
      refine lv_bipush (v := 6) hx hb dX8_count_121 (by decide) ?_
      refine kq_iald hx hb hK hw hL_nw hS_nw (by unfold vp_in; decide) dX8_count_123 ?_
      refine lv_topi (fun v10 ev10 => ?_)
      have ev10 : v10 = 0 := ev10
      subst ev10
      exact kq_iret hx hb hr hlocks hw (Nat.le_of_ble_eq_true rfl) (Nat.le_of_ble_eq_true rfl) dX8_count_124 (by unfold sp_count; rw [if_neg h_out])
    · skip
      refine lv_tableIn (tgt := 125) (off := 122) hx hb dX8_count_3 h_in.1 h_in.2 (by rw [h_v]; rfl) (by decide) ?_
      refine lv_aload_n hx hb dX8_count_125 rfl (lv_at hl 1 rfl) ?_
      refine kq_get (ci := 8) (v := .int 0) (C := RX8) (T := TX8) (N := 23) hx hb hts (by decide +kernel) hown hK hw hL_m_ hS_m_ rfl 17 (by decide) (hts (.fieldLink RX8 149 "WrongWordModel" "acts" "I") (by decide +kernel)) rfl dX8_count_126 ?_
      exact kq_iret hx hb hr hlocks hw (Nat.le_of_ble_eq_true rfl) (Nat.le_of_ble_eq_true rfl) dX8_count_129 (by unfold sp_count; rw [if_neg h_out])
    · skip
      refine lv_tableIn (tgt := 130) (off := 127) hx hb dX8_count_3 h_in.1 h_in.2 (by rw [h_v]; rfl) (by decide) ?_
      refine lv_aload_n hx hb dX8_count_130 rfl (lv_at hl 1 rfl) ?_
      refine kq_get (ci := 8) (v := .int 0) (C := RX8) (T := TX8) (N := 23) hx hb hts (by decide +kernel) hown hK hw hL_m_ hS_m_ rfl 6 (by decide) (hts (.fieldLink RX8 82 "WrongWordModel" "taped" "I") (by decide +kernel)) rfl dX8_count_131 ?_
      exact kq_iret hx hb hr hlocks hw (Nat.le_of_ble_eq_true rfl) (Nat.le_of_ble_eq_true rfl) dX8_count_134 (by unfold sp_count; rw [if_neg h_out])
    · skip
      refine lv_tableIn (tgt := 135) (off := 132) hx hb dX8_count_3 h_in.1 h_in.2 (by rw [h_v]; rfl) (by decide) ?_
      refine lv_aload_n hx hb dX8_count_135 rfl (lv_at hl 1 rfl) ?_
      refine kq_get (ci := 8) (v := .ref nw) (C := RX8) (T := TX8) (N := 23) hx hb hts (by decide +kernel) hown hK hw hL_m_ hS_m_ rfl 13 (by decide) (hts (.fieldLink RX8 25 "WrongWordModel" "now" "[I") (by decide +kernel)) rfl dX8_count_136 ?_
      refine lv_iconst (v := 0) hx hb dX8_count_139 (by decide) ?_
      refine kq_iald hx hb hK hw hL_nw hS_nw (by unfold vp_in; decide) dX8_count_140 ?_
      refine lv_topi (fun v11 ev11 => ?_)
      have ev11 : v11 = 0 := ev11
      subst ev11
      exact kq_iret hx hb hr hlocks hw (Nat.le_of_ble_eq_true rfl) (Nat.le_of_ble_eq_true rfl) dX8_count_141 (by unfold sp_count; rw [if_neg h_out])
    · skip
      refine lv_tableIn (tgt := 142) (off := 139) hx hb dX8_count_3 h_in.1 h_in.2 (by rw [h_v]; rfl) (by decide) ?_
      refine lv_iconst (v := 0) hx hb dX8_count_142 (by decide) ?_
      refine lv_istore_n (lv' := [(3, .int 0), (2, .int 0), (0, .ref m_), (1, .int a0)]) hx hb dX8_count_143 rfl hl (by decide) rfl (fun ls hl => ?_)
      refine lv_iload_n hx hb dX8_count_144 rfl (lv_at hl 0 rfl) ?_
      refine lv_aload_n hx hb dX8_count_145 rfl (lv_at hl 2 rfl) ?_
      refine kq_get (ci := 8) (v := .ref nw) (C := RX8) (T := TX8) (N := 23) hx hb hts (by decide +kernel) hown hK hw hL_m_ hS_m_ rfl 13 (by decide) (hts (.fieldLink RX8 25 "WrongWordModel" "now" "[I") (by decide +kernel)) rfl dX8_count_146 ?_
      refine lv_iconst (v := 4) hx hb dX8_count_149 (by decide) ?_
      refine kq_iald hx hb hK hw hL_nw hS_nw (by unfold vp_in; decide) dX8_count_150 ?_
      refine lv_topi (fun v12 ev12 => ?_)
      have ev12 : v12 = 0 := ev12
      subst ev12
      refine lv_icmp_ge (tgt := 176) hx hb dX8_count_151 (by decide) (fun c13 => ?_) (fun c13 => ?_)
      · skip
        refine lv_iload_n hx hb dX8_count_176 rfl (lv_at hl 1 rfl) ?_
        exact kq_iret hx hb hr hlocks hw (Nat.le_of_ble_eq_true rfl) (Nat.le_of_ble_eq_true rfl) dX8_count_177 (by unfold sp_count; rw [if_neg h_out])
      · skip
        exact absurd (by decide) c13
abbrev rmX8_byteAt : Room := { frames := 0, cells := 0, slots := 0, locals := 0 }
set_option maxHeartbeats 4000000 in
set_option maxRecDepth 100000 in
theorem c_X8_byteAt (l : Launch) (E : kq_T) (L : List Nat) (σ : Nat → va_E) {m_ la mn it sp tp nw dr tr pa im kp me tc : Nat} {us uk up uS ut uv uc uz : Int32} (hL_m_ : m_ ∈ L) (hS_m_ : σ m_ = .inr (8, [.ref la, .ref mn, .ref it, .ref sp, .int us, .ref tp, .int 0, .int uk, .int up, .int 0, .int uS, .int ut, .int uv, .ref nw, .ref dr, .ref tr, .ref pa, .int uc, .ref im, .ref kp, .ref me, .ref tc, .int uz])) : kq_I l E yX8_byteAt wsX8_byteAt rmX8_byteAt [.ref m_, .int 0] L σ (fun r L1 σ1 => r = (-1) ∧ L = L1 ∧ σ = σ1) := by
  refine kq_enterI (cc := cX8_byteAt) (maxL := 2) (ret := (some .int)) (by decide) rfl (Nat.le_of_ble_eq_true rfl) rfl ?_
  intro p e s m below meth c A ls C hK hw hl
  obtain ⟨hx, hb, hml, hown, hts, hr, hlocks, hnm⟩ := C
  have hown : s.vm.findClass RX8 = some m.cls := hown
  have hl : lv_has ls 2 [(0, .ref m_), (1, .int 0)] := hl
  refine lv_iload_n hx hb dX8_byteAt_0 rfl (lv_at hl 1 rfl) ?_
  refine lv_aload_n hx hb dX8_byteAt_1 rfl (lv_at hl 0 rfl) ?_
  refine kq_get (ci := 8) (v := .int 0) (C := RX8) (T := TX8) (N := 23) hx hb hts (by decide +kernel) hown hK hw hL_m_ hS_m_ rfl 6 (by decide) (hts (.fieldLink RX8 82 "WrongWordModel" "taped" "I") (by decide +kernel)) rfl dX8_byteAt_2 ?_
  refine lv_icmp_ge (tgt := 17) hx hb dX8_byteAt_5 (by decide) (fun c1 => ?_) (fun c1 => ?_)
  · skip
    refine lv_iconst (v := (-1)) hx hb dX8_byteAt_17 (by decide) ?_
    exact kq_iret hx hb hr hlocks hw (Nat.le_of_ble_eq_true rfl) (Nat.le_of_ble_eq_true rfl) dX8_byteAt_18 ⟨rfl, rfl, rfl⟩
  · skip
    exact absurd (by decide) c1
abbrev rmX8_advances : Room := { frames := 1, cells := 0, slots := 0, locals := 22 }
set_option maxHeartbeats 4000000 in
set_option maxRecDepth 100000 in
theorem c_X8_advances (l : Launch) (E : kq_T) (L : List Nat) (σ : Nat → va_E) {m_ la mn it sp tp nw dr tr pa im kp me tc : Nat} {us uk up uS ut uv uc uz : Int32} (hL_m_ : m_ ∈ L) (hS_m_ : σ m_ = .inr (8, [.ref la, .ref mn, .ref it, .ref sp, .int us, .ref tp, .int 0, .int uk, .int up, .int 0, .int uS, .int ut, .int uv, .ref nw, .ref dr, .ref tr, .ref pa, .int uc, .ref im, .ref kp, .ref me, .ref tc, .int uz])) : kq_V l E yX8_advances wsX8_advances rmX8_advances [.ref m_] L σ (fun L1 σ1 => L = L1 ∧ (∀ b, b ≠ m_ → σ1 b = σ b) ∧ σ1 m_ = .inr (8, [.ref la, .ref mn, .ref it, .ref sp, .int us, .ref tp, .int 0, .int uk, .int up, .int 0, .int 0, .int 0, .int ((-1)), .ref nw, .ref dr, .ref tr, .ref pa, .int uc, .ref im, .ref kp, .ref me, .ref tc, .int uz])) := by
  refine kq_enterV (cc := cX8_advances) (maxL := 2) (ret := none) (by decide) rfl (Nat.le_of_ble_eq_true rfl) rfl ?_
  intro p e s m below meth c A ls C hK hw hl
  obtain ⟨hx, hb, hml, hown, hts, hr, hlocks, hnm⟩ := C
  have hown : s.vm.findClass RX8 = some m.cls := hown
  have hl : lv_has ls 2 [(0, .ref m_)] := hl
  refine lv_aload_n hx hb dX8_advances_0 rfl (lv_at hl 0 rfl) ?_
  refine lv_aload_n hx hb dX8_advances_1 rfl (lv_at hl 0 rfl) ?_
  refine kq_get (ci := 8) (v := .int 0) (C := RX8) (T := TX8) (N := 23) hx hb hts (by decide +kernel) hown hK hw hL_m_ hS_m_ rfl 9 (by decide) (hts (.fieldLink RX8 86 "WrongWordModel" "at" "I") (by decide +kernel)) rfl dX8_advances_2 ?_
  refine kq_put (ci := 8) (v := .int 0) (ty := .int) (C := RX8) (T := TX8) (N := 23) (fs' := [.ref la, .ref mn, .ref it, .ref sp, .int us, .ref tp, .int 0, .int uk, .int up, .int 0, .int 0, .int ut, .int uv, .ref nw, .ref dr, .ref tr, .ref pa, .int uc, .ref im, .ref kp, .ref me, .ref tc, .int uz]) hx hb hts (by decide +kernel) tyX8 tyX8_ok nmX8 hown hK hw hL_m_ hS_m_ rfl 10 (by decide) (hts (.fieldLink RX8 89 "WrongWordModel" "start" "I") (by decide +kernel)) rfl (by decide +kernel) rfl rfl (Nat.le_of_ble_eq_true rfl) rfl dX8_advances_5 (fun H locs σ1 eσ1 hw => ?_)
  have nhS_m_ : σ1 m_ = .inr (8, [.ref la, .ref mn, .ref it, .ref sp, .int us, .ref tp, .int 0, .int uk, .int up, .int 0, .int 0, .int ut, .int uv, .ref nw, .ref dr, .ref tr, .ref pa, .int uc, .ref im, .ref kp, .ref me, .ref tc, .int uz]) := by rw [eσ1]; exact va_up_self _ _ _
  have hS_m_ := nhS_m_
  refine lv_aload_n hx hb dX8_advances_8 rfl (lv_at hl 0 rfl) ?_
  refine lv_aload_n hx hb dX8_advances_9 rfl (lv_at hl 0 rfl) ?_
  refine kq_get (ci := 8) (v := .int 0) (C := RX8) (T := TX8) (N := 23) hx hb hts (by decide +kernel) hown hK hw hL_m_ hS_m_ rfl 9 (by decide) (hts (.fieldLink RX8 86 "WrongWordModel" "at" "I") (by decide +kernel)) rfl dX8_advances_10 ?_
  refine kq_callI (As := [.int 0]) (rest := []) (n := 1) (q := (RX8, TX8, 23)) (ci := 8) (mc := 0) (ms := 0) ⟨hx, hb, hml, hown, hts⟩ (c_X8_byteAt l E L σ1 hL_m_ hS_m_) gX8_advances_X8_byteAt rfl (by decide +kernel) ⟨Nat.le_of_ble_eq_true rfl, Nat.le_of_ble_eq_true rfl⟩ hK hw hL_m_ hS_m_ rfl rfl hl.1 rfl (Nat.le_of_ble_eq_true rfl) dX8_advances_13 rfl rfl ⟨Nat.le_of_ble_eq_true rfl, Nat.le_of_ble_eq_true rfl⟩ (fun r2 Lv σv H locs hp hw => ?_)
  obtain ⟨er2, rfl, rfl⟩ := hp
  have er2 : r2 = (-1) := er2
  subst er2
  refine lv_istore_n (lv' := [(1, .int ((-1))), (0, .ref m_)]) hx hb dX8_advances_16 rfl hl (by decide) rfl (fun ls hl => ?_)
  refine lv_aload_n hx hb dX8_advances_17 rfl (lv_at hl 1 rfl) ?_
  refine lv_iload_n hx hb dX8_advances_18 rfl (lv_at hl 0 rfl) ?_
  refine kq_put (ci := 8) (v := .int ((-1))) (ty := .int) (C := RX8) (T := TX8) (N := 23) (fs' := [.ref la, .ref mn, .ref it, .ref sp, .int us, .ref tp, .int 0, .int uk, .int up, .int 0, .int 0, .int ut, .int ((-1)), .ref nw, .ref dr, .ref tr, .ref pa, .int uc, .ref im, .ref kp, .ref me, .ref tc, .int uz]) hx hb hts (by decide +kernel) tyX8 tyX8_ok nmX8 hown hK hw hL_m_ hS_m_ rfl 12 (by decide) (hts (.fieldLink RX8 95 "WrongWordModel" "value" "I") (by decide +kernel)) rfl (by decide +kernel) rfl rfl (Nat.le_of_ble_eq_true rfl) rfl dX8_advances_19 (fun H locs σ3 eσ3 hw => ?_)
  have nhS_m_ : σ3 m_ = .inr (8, [.ref la, .ref mn, .ref it, .ref sp, .int us, .ref tp, .int 0, .int uk, .int up, .int 0, .int 0, .int ut, .int ((-1)), .ref nw, .ref dr, .ref tr, .ref pa, .int uc, .ref im, .ref kp, .ref me, .ref tc, .int uz]) := by rw [eσ3]; exact va_up_self _ _ _
  have hS_m_ := nhS_m_
  refine lv_iload_n hx hb dX8_advances_22 rfl (lv_at hl 0 rfl) ?_
  refine lv_bipush (v := 48) hx hb dX8_advances_23 (by decide) ?_
  refine lv_bipush (v := 57) hx hb dX8_advances_25 (by decide) ?_
  refine kq_callS (As := [.int ((-1)), .int 48, .int 57]) (rest := []) (n := 3) (mc := 0) (ms := 0) ⟨hx, hb, hml, hown, hts⟩ (c_X8_in l E L σ3 ((-1)) 48 57) gX8_advances_X8_in rfl (by decide +kernel) ⟨Nat.le_of_ble_eq_true rfl, Nat.le_of_ble_eq_true rfl⟩ hK hw rfl hl.1 rfl (Nat.le_of_ble_eq_true rfl) dX8_advances_27 rfl rfl ⟨Nat.le_of_ble_eq_true rfl, Nat.le_of_ble_eq_true rfl⟩ (fun r4 Lv σv H locs hp hw => ?_)
  obtain ⟨er4, rfl, rfl⟩ := hp
  have er4 : r4 = 0 := er4.trans (by decide)
  subst er4
  refine lv_if_eq (tgt := 135) hx hb dX8_advances_30 (by decide) (fun c5 => ?_) (fun c5 => ?_)
  · skip
    refine lv_aload_n hx hb dX8_advances_135 rfl (lv_at hl 1 rfl) ?_
    refine lv_iload_n hx hb dX8_advances_136 rfl (lv_at hl 0 rfl) ?_
    refine lv_if_ge (tgt := 144) hx hb dX8_advances_137 (by decide) (fun c6 => ?_) (fun c6 => ?_)
    · skip
      exact absurd c6 (by decide)
    · skip
      refine lv_iconst (v := 0) hx hb dX8_advances_140 (by decide) ?_
      refine lv_goto (tgt := 180) hx hb dX8_advances_141 (by decide) ?_
      refine kq_put (ci := 8) (v := .int 0) (ty := .int) (C := RX8) (T := TX8) (N := 23) (fs' := [.ref la, .ref mn, .ref it, .ref sp, .int us, .ref tp, .int 0, .int uk, .int up, .int 0, .int 0, .int 0, .int ((-1)), .ref nw, .ref dr, .ref tr, .ref pa, .int uc, .ref im, .ref kp, .ref me, .ref tc, .int uz]) hx hb hts (by decide +kernel) tyX8 tyX8_ok nmX8 hown hK hw hL_m_ hS_m_ rfl 11 (by decide) (hts (.fieldLink RX8 98 "WrongWordModel" "token" "I") (by decide +kernel)) rfl (by decide +kernel) rfl rfl (Nat.le_of_ble_eq_true rfl) rfl dX8_advances_180 (fun H locs σ7 eσ7 hw => ?_)
      have nhS_m_ : σ7 m_ = .inr (8, [.ref la, .ref mn, .ref it, .ref sp, .int us, .ref tp, .int 0, .int uk, .int up, .int 0, .int 0, .int 0, .int ((-1)), .ref nw, .ref dr, .ref tr, .ref pa, .int uc, .ref im, .ref kp, .ref me, .ref tc, .int uz]) := by rw [eσ7]; exact va_up_self _ _ _
      have hS_m_ := nhS_m_
      refine lv_aload_n hx hb dX8_advances_183 rfl (lv_at hl 1 rfl) ?_
      refine lv_dup hx hb dX8_advances_184 rfl ?_
      refine kq_get (ci := 8) (v := .int 0) (C := RX8) (T := TX8) (N := 23) hx hb hts (by decide +kernel) hown hK hw hL_m_ hS_m_ rfl 9 (by decide) (hts (.fieldLink RX8 86 "WrongWordModel" "at" "I") (by decide +kernel)) rfl dX8_advances_185 ?_
      refine lv_aload_n hx hb dX8_advances_188 rfl (lv_at hl 1 rfl) ?_
      refine kq_get (ci := 8) (v := .int 0) (C := RX8) (T := TX8) (N := 23) hx hb hts (by decide +kernel) hown hK hw hL_m_ hS_m_ rfl 11 (by decide) (hts (.fieldLink RX8 98 "WrongWordModel" "token" "I") (by decide +kernel)) rfl dX8_advances_189 ?_
      refine lv_if_ne (tgt := 199) hx hb dX8_advances_192 (by decide) (fun c8 => ?_) (fun c8 => ?_)
      · skip
        exact absurd c8 (by decide)
      · skip
        refine lv_iconst (v := 0) hx hb dX8_advances_195 (by decide) ?_
        refine lv_goto (tgt := 200) hx hb dX8_advances_196 (by decide) ?_
        refine lv_iadd hx hb dX8_advances_200 ?_
        refine lv_topi (fun v9 ev9 => ?_)
        have ev9 : v9 = 0 := by rw [ev9]; decide
        subst ev9
        refine kq_put (ci := 8) (v := .int 0) (ty := .int) (C := RX8) (T := TX8) (N := 23) (fs' := [.ref la, .ref mn, .ref it, .ref sp, .int us, .ref tp, .int 0, .int uk, .int up, .int 0, .int 0, .int 0, .int ((-1)), .ref nw, .ref dr, .ref tr, .ref pa, .int uc, .ref im, .ref kp, .ref me, .ref tc, .int uz]) hx hb hts (by decide +kernel) tyX8 tyX8_ok nmX8 hown hK hw hL_m_ hS_m_ rfl 9 (by decide) (hts (.fieldLink RX8 86 "WrongWordModel" "at" "I") (by decide +kernel)) rfl (by decide +kernel) rfl rfl (Nat.le_of_ble_eq_true rfl) rfl dX8_advances_201 (fun H locs σ10 eσ10 hw => ?_)
        have nhS_m_ : σ10 m_ = .inr (8, [.ref la, .ref mn, .ref it, .ref sp, .int us, .ref tp, .int 0, .int uk, .int up, .int 0, .int 0, .int 0, .int ((-1)), .ref nw, .ref dr, .ref tr, .ref pa, .int uc, .ref im, .ref kp, .ref me, .ref tc, .int uz]) := by rw [eσ10]; exact va_up_self _ _ _
        have hS_m_ := nhS_m_
        exact kq_vret hx hb hr hlocks hw (Nat.le_of_ble_eq_true rfl) (Nat.le_of_ble_eq_true rfl) dX8_advances_204 ⟨rfl, (fun b h0_ => by rw [eσ10, eσ7, eσ3, eσ1]; simp only [va_up]; simp [h0_]), hS_m_⟩
  · skip
    exact absurd (by decide) c5
abbrev rmX8_isWell : Room := { frames := 0, cells := 0, slots := 0, locals := 0 }
set_option maxHeartbeats 4000000 in
set_option maxRecDepth 100000 in
theorem c_X8_isWell_w (l : Launch) (E : kq_T) (L : List Nat) (σ : Nat → va_E) {m_ la mn it sp tp nw dr tr pa im kp me tc : Nat} {us uk uS ut uv uc uz : Int32} (hL_m_ : m_ ∈ L) (hS_m_ : σ m_ = .inr (8, [.ref la, .ref mn, .ref it, .ref sp, .int us, .ref tp, .int 0, .int uk, .int ((-1)), .int 0, .int uS, .int ut, .int uv, .ref nw, .ref dr, .ref tr, .ref pa, .int uc, .ref im, .ref kp, .ref me, .ref tc, .int uz])) : kq_I l E yX8_isWell wsX8_isWell rmX8_isWell [.ref m_] L σ (fun r L1 σ1 => r = 1 ∧ L = L1 ∧ σ = σ1) := by
  refine kq_enterI (cc := cX8_isWell) (maxL := 1) (ret := (some .boolean)) (by decide) rfl (Nat.le_of_ble_eq_true rfl) rfl ?_
  intro p e s m below meth c A ls C hK hw hl
  obtain ⟨hx, hb, hml, hown, hts, hr, hlocks, hnm⟩ := C
  have hown : s.vm.findClass RX8 = some m.cls := hown
  have hl : lv_has ls 1 [(0, .ref m_)] := hl
  refine lv_aload_n hx hb dX8_isWell_0 rfl (lv_at hl 0 rfl) ?_
  refine kq_get (ci := 8) (v := .int ((-1))) (C := RX8) (T := TX8) (N := 23) hx hb hts (by decide +kernel) hown hK hw hL_m_ hS_m_ rfl 8 (by decide) (hts (.fieldLink RX8 101 "WrongWordModel" "faultPlace" "I") (by decide +kernel)) rfl dX8_isWell_1 ?_
  refine lv_if_ge (tgt := 11) hx hb dX8_isWell_4 (by decide) (fun c1 => ?_) (fun c1 => ?_)
  · skip
    exact absurd c1 (by decide)
  · skip
    refine lv_iconst (v := 1) hx hb dX8_isWell_7 (by decide) ?_
    refine lv_goto (tgt := 12) hx hb dX8_isWell_8 (by decide) ?_
    exact kq_zret hx hb hr hlocks hw (Nat.le_of_ble_eq_true rfl) (Nat.le_of_ble_eq_true rfl) (Or.inr rfl) dX8_isWell_12 ⟨rfl, rfl, rfl⟩
set_option maxHeartbeats 4000000 in
set_option maxRecDepth 100000 in
theorem c_X8_isWell_n (l : Launch) (E : kq_T) (L : List Nat) (σ : Nat → va_E) {m_ la mn it sp tp nw dr tr pa im kp me tc : Nat} {us uk uS ut uv uc uz : Int32} (hL_m_ : m_ ∈ L) (hS_m_ : σ m_ = .inr (8, [.ref la, .ref mn, .ref it, .ref sp, .int us, .ref tp, .int 0, .int uk, .int 0, .int 0, .int uS, .int ut, .int uv, .ref nw, .ref dr, .ref tr, .ref pa, .int uc, .ref im, .ref kp, .ref me, .ref tc, .int uz])) : kq_I l E yX8_isWell wsX8_isWell rmX8_isWell [.ref m_] L σ (fun r L1 σ1 => r = 0 ∧ L = L1 ∧ σ = σ1) := by
  refine kq_enterI (cc := cX8_isWell) (maxL := 1) (ret := (some .boolean)) (by decide) rfl (Nat.le_of_ble_eq_true rfl) rfl ?_
  intro p e s m below meth c A ls C hK hw hl
  obtain ⟨hx, hb, hml, hown, hts, hr, hlocks, hnm⟩ := C
  have hown : s.vm.findClass RX8 = some m.cls := hown
  have hl : lv_has ls 1 [(0, .ref m_)] := hl
  refine lv_aload_n hx hb dX8_isWell_0 rfl (lv_at hl 0 rfl) ?_
  refine kq_get (ci := 8) (v := .int 0) (C := RX8) (T := TX8) (N := 23) hx hb hts (by decide +kernel) hown hK hw hL_m_ hS_m_ rfl 8 (by decide) (hts (.fieldLink RX8 101 "WrongWordModel" "faultPlace" "I") (by decide +kernel)) rfl dX8_isWell_1 ?_
  refine lv_if_ge (tgt := 11) hx hb dX8_isWell_4 (by decide) (fun c1 => ?_) (fun c1 => ?_)
  · skip
    refine lv_iconst (v := 0) hx hb dX8_isWell_11 (by decide) ?_
    exact kq_zret hx hb hr hlocks hw (Nat.le_of_ble_eq_true rfl) (Nat.le_of_ble_eq_true rfl) (Or.inl rfl) dX8_isWell_12 ⟨rfl, rfl, rfl⟩
  · skip
    exact absurd (by decide) c1
abbrev rmX8_takes : Room := { frames := 2, cells := 0, slots := 0, locals := 43 }
set_option maxHeartbeats 4000000 in
set_option maxRecDepth 100000 in
theorem c_X8_takes_w (l : Launch) (E : kq_T) (L : List Nat) (σ : Nat → va_E) {m_ la mn it sp tp nw dr tr pa im kp me tc : Nat} {us uk ut uv uc uz : Int32} (hL_m_ : m_ ∈ L) (hS_m_ : σ m_ = .inr (8, [.ref la, .ref mn, .ref it, .ref sp, .int us, .ref tp, .int 0, .int uk, .int ((-1)), .int 0, .int 0, .int ut, .int uv, .ref nw, .ref dr, .ref tr, .ref pa, .int uc, .ref im, .ref kp, .ref me, .ref tc, .int uz])) : kq_I l E yX8_takes wsX8_takes rmX8_takes [.ref m_, .int 0, .int 1] L σ (fun r L1 σ1 => r = 0 ∧ L = L1 ∧ (∀ b, b ≠ m_ → σ1 b = σ b) ∧ σ1 m_ = .inr (8, [.ref la, .ref mn, .ref it, .ref sp, .int us, .ref tp, .int 0, .int 1, .int 0, .int 0, .int 0, .int ut, .int uv, .ref nw, .ref dr, .ref tr, .ref pa, .int uc, .ref im, .ref kp, .ref me, .ref tc, .int uz])) := by
  refine kq_enterI (cc := cX8_takes) (maxL := 4) (ret := (some .int)) (by decide) rfl (Nat.le_of_ble_eq_true rfl) rfl ?_
  intro p e s m below meth c A ls C hK hw hl
  obtain ⟨hx, hb, hml, hown, hts, hr, hlocks, hnm⟩ := C
  have hown : s.vm.findClass RX8 = some m.cls := hown
  have hl : lv_has ls 4 [(0, .ref m_), (1, .int 0), (2, .int 1)] := hl
  refine lv_aload_n hx hb dX8_takes_0 rfl (lv_at hl 0 rfl) ?_
  refine kq_callI (As := []) (rest := []) (n := 0) (q := (RX8, TX8, 23)) (ci := 8) (mc := 0) (ms := 0) ⟨hx, hb, hml, hown, hts⟩ (c_X8_isWell_w l E L σ hL_m_ hS_m_) gX8_takes_X8_isWell rfl (by decide +kernel) ⟨Nat.le_of_ble_eq_true rfl, Nat.le_of_ble_eq_true rfl⟩ hK hw hL_m_ hS_m_ rfl rfl hl.1 rfl (Nat.le_of_ble_eq_true rfl) dX8_takes_1 rfl rfl ⟨Nat.le_of_ble_eq_true rfl, Nat.le_of_ble_eq_true rfl⟩ (fun r1 Lv σv H locs hp hw => ?_)
  obtain ⟨er1, rfl, rfl⟩ := hp
  have er1 : r1 = 1 := er1
  subst er1
  refine lv_if_ne (tgt := 9) hx hb dX8_takes_4 (by decide) (fun c2 => ?_) (fun c2 => ?_)
  · skip
    refine lv_iload_n hx hb dX8_takes_9 rfl (lv_at hl 1 rfl) ?_
    refine lv_if_ne (tgt := 28) hx hb dX8_takes_10 (by decide) (fun c3 => ?_) (fun c3 => ?_)
    · skip
      exact absurd c3 (by decide)
    · skip
      refine lv_aload_n hx hb dX8_takes_13 rfl (lv_at hl 0 rfl) ?_
      refine lv_aload_n hx hb dX8_takes_14 rfl (lv_at hl 0 rfl) ?_
      refine kq_get (ci := 8) (v := .int 0) (C := RX8) (T := TX8) (N := 23) hx hb hts (by decide +kernel) hown hK hw hL_m_ hS_m_ rfl 10 (by decide) (hts (.fieldLink RX8 89 "WrongWordModel" "start" "I") (by decide +kernel)) rfl dX8_takes_15 ?_
      refine kq_put (ci := 8) (v := .int 0) (ty := .int) (C := RX8) (T := TX8) (N := 23) (fs' := [.ref la, .ref mn, .ref it, .ref sp, .int us, .ref tp, .int 0, .int uk, .int 0, .int 0, .int 0, .int ut, .int uv, .ref nw, .ref dr, .ref tr, .ref pa, .int uc, .ref im, .ref kp, .ref me, .ref tc, .int uz]) hx hb hts (by decide +kernel) tyX8 tyX8_ok nmX8 hown hK hw hL_m_ hS_m_ rfl 8 (by decide) (hts (.fieldLink RX8 101 "WrongWordModel" "faultPlace" "I") (by decide +kernel)) rfl (by decide +kernel) rfl rfl (Nat.le_of_ble_eq_true rfl) rfl dX8_takes_18 (fun H locs σ4 eσ4 hw => ?_)
      have nhS_m_ : σ4 m_ = .inr (8, [.ref la, .ref mn, .ref it, .ref sp, .int us, .ref tp, .int 0, .int uk, .int 0, .int 0, .int 0, .int ut, .int uv, .ref nw, .ref dr, .ref tr, .ref pa, .int uc, .ref im, .ref kp, .ref me, .ref tc, .int uz]) := by rw [eσ4]; exact va_up_self _ _ _
      have hS_m_ := nhS_m_
      refine lv_aload_n hx hb dX8_takes_21 rfl (lv_at hl 0 rfl) ?_
      refine lv_iload_n hx hb dX8_takes_22 rfl (lv_at hl 2 rfl) ?_
      refine kq_put (ci := 8) (v := .int 1) (ty := .int) (C := RX8) (T := TX8) (N := 23) (fs' := [.ref la, .ref mn, .ref it, .ref sp, .int us, .ref tp, .int 0, .int 1, .int 0, .int 0, .int 0, .int ut, .int uv, .ref nw, .ref dr, .ref tr, .ref pa, .int uc, .ref im, .ref kp, .ref me, .ref tc, .int uz]) hx hb hts (by decide +kernel) tyX8 tyX8_ok nmX8 hown hK hw hL_m_ hS_m_ rfl 7 (by decide) (hts (.fieldLink RX8 108 "WrongWordModel" "faultKind" "I") (by decide +kernel)) rfl (by decide +kernel) rfl rfl (Nat.le_of_ble_eq_true rfl) rfl dX8_takes_23 (fun H locs σ5 eσ5 hw => ?_)
      have nhS_m_ : σ5 m_ = .inr (8, [.ref la, .ref mn, .ref it, .ref sp, .int us, .ref tp, .int 0, .int 1, .int 0, .int 0, .int 0, .int ut, .int uv, .ref nw, .ref dr, .ref tr, .ref pa, .int uc, .ref im, .ref kp, .ref me, .ref tc, .int uz]) := by rw [eσ5]; exact va_up_self _ _ _
      have hS_m_ := nhS_m_
      refine lv_iconst (v := 0) hx hb dX8_takes_26 (by decide) ?_
      exact kq_iret hx hb hr hlocks hw (Nat.le_of_ble_eq_true rfl) (Nat.le_of_ble_eq_true rfl) dX8_takes_27 ⟨rfl, rfl, (fun b h0_ => by rw [eσ5, eσ4]; simp only [va_up]; simp [h0_]), hS_m_⟩
  · skip
    exact absurd c2 (by decide)
set_option maxHeartbeats 4000000 in
set_option maxRecDepth 100000 in
theorem c_X8_takes_n (l : Launch) (E : kq_T) (L : List Nat) (σ : Nat → va_E) {m_ la mn it sp tp nw dr tr pa im kp me tc : Nat} {us uk uS ut uv uc uz : Int32}  (a b : Int32) (hL_m_ : m_ ∈ L) (hS_m_ : σ m_ = .inr (8, [.ref la, .ref mn, .ref it, .ref sp, .int us, .ref tp, .int 0, .int uk, .int 0, .int 0, .int uS, .int ut, .int uv, .ref nw, .ref dr, .ref tr, .ref pa, .int uc, .ref im, .ref kp, .ref me, .ref tc, .int uz])) : kq_I l E yX8_takes wsX8_takes rmX8_takes [.ref m_, .int a, .int b] L σ (fun r L1 σ1 => r = 0 ∧ L = L1 ∧ σ = σ1) := by
  refine kq_enterI (cc := cX8_takes) (maxL := 4) (ret := (some .int)) (by decide) rfl (Nat.le_of_ble_eq_true rfl) rfl ?_
  intro p e s m below meth c A ls C hK hw hl
  obtain ⟨hx, hb, hml, hown, hts, hr, hlocks, hnm⟩ := C
  have hown : s.vm.findClass RX8 = some m.cls := hown
  have hl : lv_has ls 4 [(0, .ref m_), (1, .int a), (2, .int b)] := hl
  refine lv_aload_n hx hb dX8_takes_0 rfl (lv_at hl 0 rfl) ?_
  refine kq_callI (As := []) (rest := []) (n := 0) (q := (RX8, TX8, 23)) (ci := 8) (mc := 0) (ms := 0) ⟨hx, hb, hml, hown, hts⟩ (c_X8_isWell_n l E L σ hL_m_ hS_m_) gX8_takes_X8_isWell rfl (by decide +kernel) ⟨Nat.le_of_ble_eq_true rfl, Nat.le_of_ble_eq_true rfl⟩ hK hw hL_m_ hS_m_ rfl rfl hl.1 rfl (Nat.le_of_ble_eq_true rfl) dX8_takes_1 rfl rfl ⟨Nat.le_of_ble_eq_true rfl, Nat.le_of_ble_eq_true rfl⟩ (fun r1 Lv σv H locs hp hw => ?_)
  obtain ⟨er1, rfl, rfl⟩ := hp
  have er1 : r1 = 0 := er1
  subst er1
  refine lv_if_ne (tgt := 9) hx hb dX8_takes_4 (by decide) (fun c2 => ?_) (fun c2 => ?_)
  · skip
    exact absurd c2 (by decide)
  · skip
    refine lv_iconst (v := 0) hx hb dX8_takes_7 (by decide) ?_
    exact kq_iret hx hb hr hlocks hw (Nat.le_of_ble_eq_true rfl) (Nat.le_of_ble_eq_true rfl) dX8_takes_8 ⟨rfl, rfl, rfl⟩
abbrev rmX8_figure : Room := { frames := 3, cells := 0, slots := 0, locals := 66 }
set_option maxHeartbeats 4000000 in
set_option maxRecDepth 100000 in
theorem c_X8_figure (l : Launch) (E : kq_T) (L : List Nat) (σ : Nat → va_E) {m_ la mn it sp tp nw dr tr pa im kp me tc : Nat} {us uk uS ut uv uc uz : Int32}  (a b : Int32) (hL_m_ : m_ ∈ L) (hS_m_ : σ m_ = .inr (8, [.ref la, .ref mn, .ref it, .ref sp, .int us, .ref tp, .int 0, .int uk, .int 0, .int 0, .int uS, .int ut, .int uv, .ref nw, .ref dr, .ref tr, .ref pa, .int uc, .ref im, .ref kp, .ref me, .ref tc, .int uz])) : kq_I l E yX8_figure wsX8_figure rmX8_figure [.ref m_, .int a, .int b] L σ (fun r L1 σ1 => r = 0 ∧ L = L1 ∧ σ = σ1) := by
  refine kq_enterI (cc := cX8_figure) (maxL := 3) (ret := (some .int)) (by decide) rfl (Nat.le_of_ble_eq_true rfl) rfl ?_
  intro p e s m below meth c A ls C hK hw hl
  obtain ⟨hx, hb, hml, hown, hts, hr, hlocks, hnm⟩ := C
  have hown : s.vm.findClass RX8 = some m.cls := hown
  have hl : lv_has ls 3 [(0, .ref m_), (1, .int a), (2, .int b)] := hl
  refine lv_aload_n hx hb dX8_figure_0 rfl (lv_at hl 0 rfl) ?_
  refine kq_callI (As := []) (rest := []) (n := 0) (q := (RX8, TX8, 23)) (ci := 8) (mc := 0) (ms := 0) ⟨hx, hb, hml, hown, hts⟩ (c_X8_isWell_n l E L σ hL_m_ hS_m_) gX8_figure_X8_isWell rfl (by decide +kernel) ⟨Nat.le_of_ble_eq_true rfl, Nat.le_of_ble_eq_true rfl⟩ hK hw hL_m_ hS_m_ rfl rfl hl.1 rfl (Nat.le_of_ble_eq_true rfl) dX8_figure_1 rfl rfl ⟨Nat.le_of_ble_eq_true rfl, Nat.le_of_ble_eq_true rfl⟩ (fun r1 Lv σv H locs hp hw => ?_)
  obtain ⟨er1, rfl, rfl⟩ := hp
  have er1 : r1 = 0 := er1
  subst er1
  refine lv_if_eq (tgt := 22) hx hb dX8_figure_4 (by decide) (fun c2 => ?_) (fun c2 => ?_)
  · skip
    refine lv_aload_n hx hb dX8_figure_22 rfl (lv_at hl 0 rfl) ?_
    refine lv_aload_n hx hb dX8_figure_23 rfl (lv_at hl 0 rfl) ?_
    refine kq_get (ci := 8) (v := .int uv) (C := RX8) (T := TX8) (N := 23) hx hb hts (by decide +kernel) hown hK hw hL_m_ hS_m_ rfl 12 (by decide) (hts (.fieldLink RX8 95 "WrongWordModel" "value" "I") (by decide +kernel)) rfl dX8_figure_24 ?_
    refine lv_iload_n hx hb dX8_figure_27 rfl (lv_at hl 1 rfl) ?_
    refine lv_iload_n hx hb dX8_figure_28 rfl (lv_at hl 2 rfl) ?_
    refine kq_callS (As := [.int uv, .int a, .int b]) (rest := [.ref m_]) (n := 3) (mc := 0) (ms := 0) ⟨hx, hb, hml, hown, hts⟩ (c_X8_in l E L σ uv a b) gX8_figure_X8_in rfl (by decide +kernel) ⟨Nat.le_of_ble_eq_true rfl, Nat.le_of_ble_eq_true rfl⟩ hK hw rfl hl.1 rfl (Nat.le_of_ble_eq_true rfl) dX8_figure_29 rfl rfl ⟨Nat.le_of_ble_eq_true rfl, Nat.le_of_ble_eq_true rfl⟩ (fun r3 Lv σv H locs hp hw => ?_)
    obtain ⟨er3, rfl, rfl⟩ := hp
    refine lv_iconst (v := 2) hx hb dX8_figure_32 (by decide) ?_
    refine kq_callI (As := [.int r3, .int 2]) (rest := []) (n := 2) (q := (RX8, TX8, 23)) (ci := 8) (mc := 0) (ms := 0) ⟨hx, hb, hml, hown, hts⟩ (c_X8_takes_n l E L σ r3 2 hL_m_ hS_m_) gX8_figure_X8_takes rfl (by decide +kernel) ⟨Nat.le_of_ble_eq_true rfl, Nat.le_of_ble_eq_true rfl⟩ hK hw hL_m_ hS_m_ rfl rfl hl.1 rfl (Nat.le_of_ble_eq_true rfl) dX8_figure_33 rfl rfl ⟨Nat.le_of_ble_eq_true rfl, Nat.le_of_ble_eq_true rfl⟩ (fun r4 Lv σv H locs hp hw => ?_)
    obtain ⟨er4, rfl, rfl⟩ := hp
    have er4 : r4 = 0 := er4
    subst er4
    exact kq_iret hx hb hr hlocks hw (Nat.le_of_ble_eq_true rfl) (Nat.le_of_ble_eq_true rfl) dX8_figure_36 ⟨rfl, rfl, rfl⟩
  · skip
    exact absurd (by decide) c2
abbrev rmX8_follows : Room := { frames := 4, cells := 0, slots := 0, locals := 88 }
set_option maxHeartbeats 4000000 in
set_option maxRecDepth 100000 in
theorem c_X8_follows (l : Launch) (E : kq_T) (L : List Nat) (σ : Nat → va_E) {m_ la mn it sp tp nw dr tr pa im kp me tc : Nat} {us uk uS uv uc uz : Int32}  (a b : Int32) (hL_m_ : m_ ∈ L) (hS_m_ : σ m_ = .inr (8, [.ref la, .ref mn, .ref it, .ref sp, .int us, .ref tp, .int 0, .int uk, .int 0, .int 0, .int uS, .int 0, .int uv, .ref nw, .ref dr, .ref tr, .ref pa, .int uc, .ref im, .ref kp, .ref me, .ref tc, .int uz])) : kq_I l E yX8_follows wsX8_follows rmX8_follows [.ref m_, .int a, .int b] L σ (fun r L1 σ1 => r = 0 ∧ L = L1 ∧ σ = σ1) := by
  refine kq_enterI (cc := cX8_follows) (maxL := 3) (ret := (some .int)) (by decide) rfl (Nat.le_of_ble_eq_true rfl) rfl ?_
  intro p e s m below meth c A ls C hK hw hl
  obtain ⟨hx, hb, hml, hown, hts, hr, hlocks, hnm⟩ := C
  have hown : s.vm.findClass RX8 = some m.cls := hown
  have hl : lv_has ls 3 [(0, .ref m_), (1, .int a), (2, .int b)] := hl
  refine lv_aload_n hx hb dX8_follows_0 rfl (lv_at hl 0 rfl) ?_
  refine lv_aload_n hx hb dX8_follows_1 rfl (lv_at hl 0 rfl) ?_
  refine kq_get (ci := 8) (v := .int 0) (C := RX8) (T := TX8) (N := 23) hx hb hts (by decide +kernel) hown hK hw hL_m_ hS_m_ rfl 11 (by decide) (hts (.fieldLink RX8 98 "WrongWordModel" "token" "I") (by decide +kernel)) rfl dX8_follows_2 ?_
  refine lv_iconst (v := 3) hx hb dX8_follows_5 (by decide) ?_
  refine lv_icmp_ne (tgt := 13) hx hb dX8_follows_6 (by decide) (fun c1 => ?_) (fun c1 => ?_)
  · skip
    refine lv_iconst (v := 0) hx hb dX8_follows_13 (by decide) ?_
    refine lv_iconst (v := 1) hx hb dX8_follows_14 (by decide) ?_
    refine kq_callI (As := [.int 0, .int 1]) (rest := []) (n := 2) (q := (RX8, TX8, 23)) (ci := 8) (mc := 0) (ms := 0) ⟨hx, hb, hml, hown, hts⟩ (c_X8_takes_n l E L σ 0 1 hL_m_ hS_m_) gX8_follows_X8_takes rfl (by decide +kernel) ⟨Nat.le_of_ble_eq_true rfl, Nat.le_of_ble_eq_true rfl⟩ hK hw hL_m_ hS_m_ rfl rfl hl.1 rfl (Nat.le_of_ble_eq_true rfl) dX8_follows_15 rfl rfl ⟨Nat.le_of_ble_eq_true rfl, Nat.le_of_ble_eq_true rfl⟩ (fun r2 Lv σv H locs hp hw => ?_)
    obtain ⟨er2, rfl, rfl⟩ := hp
    have er2 : r2 = 0 := er2
    subst er2
    refine lv_pop hx hb dX8_follows_18 rfl ?_
    refine lv_aload_n hx hb dX8_follows_19 rfl (lv_at hl 0 rfl) ?_
    refine lv_iload_n hx hb dX8_follows_20 rfl (lv_at hl 1 rfl) ?_
    refine lv_iload_n hx hb dX8_follows_21 rfl (lv_at hl 2 rfl) ?_
    refine kq_callI (As := [.int a, .int b]) (rest := []) (n := 2) (q := (RX8, TX8, 23)) (ci := 8) (mc := 0) (ms := 0) ⟨hx, hb, hml, hown, hts⟩ (c_X8_figure l E L σ a b hL_m_ hS_m_) gX8_follows_X8_figure rfl (by decide +kernel) ⟨Nat.le_of_ble_eq_true rfl, Nat.le_of_ble_eq_true rfl⟩ hK hw hL_m_ hS_m_ rfl rfl hl.1 rfl (Nat.le_of_ble_eq_true rfl) dX8_follows_22 rfl rfl ⟨Nat.le_of_ble_eq_true rfl, Nat.le_of_ble_eq_true rfl⟩ (fun r3 Lv σv H locs hp hw => ?_)
    obtain ⟨er3, rfl, rfl⟩ := hp
    have er3 : r3 = 0 := er3
    subst er3
    exact kq_iret hx hb hr hlocks hw (Nat.le_of_ble_eq_true rfl) (Nat.le_of_ble_eq_true rfl) dX8_follows_25 ⟨rfl, rfl, rfl⟩
  · skip
    exact absurd c1 (by decide)
abbrev rmX8_must : Room := { frames := 3, cells := 0, slots := 0, locals := 66 }
set_option maxHeartbeats 4000000 in
set_option maxRecDepth 100000 in
theorem c_X8_must (l : Launch) (E : kq_T) (L : List Nat) (σ : Nat → va_E) {m_ la mn it sp tp nw dr tr pa im kp me tc : Nat} {us uk uS ut uv uc uz : Int32}  (a : Int32) (hL_m_ : m_ ∈ L) (hS_m_ : σ m_ = .inr (8, [.ref la, .ref mn, .ref it, .ref sp, .int us, .ref tp, .int 0, .int uk, .int 0, .int 0, .int uS, .int ut, .int uv, .ref nw, .ref dr, .ref tr, .ref pa, .int uc, .ref im, .ref kp, .ref me, .ref tc, .int uz])) : kq_V l E yX8_must wsX8_must rmX8_must [.ref m_, .int a] L σ (fun L1 σ1 => L = L1 ∧ σ = σ1) := by
  refine kq_enterV (cc := cX8_must) (maxL := 2) (ret := none) (by decide) rfl (Nat.le_of_ble_eq_true rfl) rfl ?_
  intro p e s m below meth c A ls C hK hw hl
  obtain ⟨hx, hb, hml, hown, hts, hr, hlocks, hnm⟩ := C
  have hown : s.vm.findClass RX8 = some m.cls := hown
  have hl : lv_has ls 2 [(0, .ref m_), (1, .int a)] := hl
  refine lv_aload_n hx hb dX8_must_0 rfl (lv_at hl 0 rfl) ?_
  refine kq_callI (As := []) (rest := []) (n := 0) (q := (RX8, TX8, 23)) (ci := 8) (mc := 0) (ms := 0) ⟨hx, hb, hml, hown, hts⟩ (c_X8_isWell_n l E L σ hL_m_ hS_m_) gX8_must_X8_isWell rfl (by decide +kernel) ⟨Nat.le_of_ble_eq_true rfl, Nat.le_of_ble_eq_true rfl⟩ hK hw hL_m_ hS_m_ rfl rfl hl.1 rfl (Nat.le_of_ble_eq_true rfl) dX8_must_1 rfl rfl ⟨Nat.le_of_ble_eq_true rfl, Nat.le_of_ble_eq_true rfl⟩ (fun r1 Lv σv H locs hp hw => ?_)
  obtain ⟨er1, rfl, rfl⟩ := hp
  have er1 : r1 = 0 := er1
  subst er1
  refine lv_if_eq (tgt := 18) hx hb dX8_must_4 (by decide) (fun c2 => ?_) (fun c2 => ?_)
  · skip
    exact kq_vret hx hb hr hlocks hw (Nat.le_of_ble_eq_true rfl) (Nat.le_of_ble_eq_true rfl) dX8_must_18 ⟨rfl, rfl⟩
  · skip
    exact absurd (by decide) c2
abbrev rmX8_gate : Room := { frames := 5, cells := 0, slots := 0, locals := 110 }
set_option maxHeartbeats 4000000 in
set_option maxRecDepth 100000 in
theorem f_X8_gate (l : Launch) (E : kq_T) (L : List Nat) (σ : Nat → va_E) {m_ : Nat} (hF : fr_M E L σ m_) : kq_I l E yX8_gate wsX8_gate rmX8_gate [.ref m_] L σ (fun r _ _ => r = (-1000100)) := by
  have hF0 := hF
  obtain ⟨la, mn, it, sp, tp, nw, dr, tr, pa, im, kp, me, tc, fl, hL_m_, hS_m_, hL_la, hS_la, hL_mn, hS_mn, hL_it, hS_it, hL_tp, hS_tp, hL_nw, hS_nw, hL_dr, hS_dr, hL_kp, hS_kp, hlm, hfl⟩ := hF
  refine kq_enterI (cc := cX8_gate) (maxL := 2) (ret := (some .int)) (by decide) rfl (Nat.le_of_ble_eq_true rfl) rfl ?_
  intro p e s m below meth c A ls C hK hw hl
  obtain ⟨hx, hb, hml, hown, hts, hr, hlocks, hnm⟩ := C
  have hown : s.vm.findClass RX8 = some m.cls := hown
  have hl : lv_has ls 2 [(0, .ref m_)] := hl
  refine lv_iconst (v := 0) hx hb dX8_gate_0 (by decide) ?_
  refine lv_istore_n (lv' := [(1, .int 0), (0, .ref m_)]) hx hb dX8_gate_1 rfl hl (by decide) rfl (fun ls hl => ?_)
  refine kq_for (nL := 2) 65 (fun i Lv σv => L = Lv ∧ (∀ b, b ≠ dr → σv b = σ b) ∧ ∃ f, σv dr = .inl (E.2 0, 65, .inl f)) (fun i => [(1, .int (nI i)), (0, .ref m_)]) 0 0 ⟨rfl, fun _ _ => rfl, _, hS_dr⟩ hw hl (fun i Lv σv H locs ls hi hI hw hl ih => ?_) (fun Lv σv H locs ls hI hw hl => ?_)
  · skip
    have hl : lv_has ls 2 [(1, .int (nI i)), (0, .ref m_)] := hl
    obtain ⟨rfl, hfr9, f9, hS_dr9⟩ := hI
    have hS_m9 : σv m_ = .inr (8, [.ref la, .ref mn, .ref it, .ref sp, .int 0, .ref tp, .int 0, .int 0, .int 0, .int 0, .int 0, .int 0, .int 0, .ref nw, .ref dr, .ref tr, .ref pa, .int 0, .ref im, .ref kp, .ref me, .ref tc, .int 0]) := (hfr9 m_ (kq_ne hS_m_ hS_dr kq_noa)).trans hS_m_
    refine lv_iload_n hx hb dX8_gate_2 rfl (lv_at hl 0 rfl) ?_
    refine lv_bipush (v := 65) hx hb dX8_gate_3 (by decide) ?_
    refine lv_icmp_ge (tgt := 21) hx hb dX8_gate_5 (by decide) (fun c1 => ?_) (fun c1 => ?_)
    · exact absurd c1 (nI_ge hi (by decide))
    refine lv_aload_n hx hb dX8_gate_8 rfl (lv_at hl 1 rfl) ?_
    refine kq_get (ci := 8) (v := .ref dr) (C := RX8) (T := TX8) (N := 23) hx hb hts (by decide +kernel) hown hK hw hL_m_ hS_m9 rfl 14 (by decide) (hts (.fieldLink RX8 28 "WrongWordModel" "draft" "[I") (by decide +kernel)) rfl dX8_gate_9 ?_
    refine lv_iload_n hx hb dX8_gate_12 rfl (lv_at hl 0 rfl) ?_
    refine lv_iconst (v := 0) hx hb dX8_gate_13 (by decide) ?_
    refine kq_iast hx hb hK hw hL_dr hS_dr9 (vp_in_nI hi (by decide)) dX8_gate_14 (fun H locs σ2 eσ2 hw => ?_)
    have nhS_m_ : σ2 m_ = .inr (8, [.ref la, .ref mn, .ref it, .ref sp, .int 0, .ref tp, .int 0, .int 0, .int 0, .int 0, .int 0, .int 0, .int 0, .ref nw, .ref dr, .ref tr, .ref pa, .int 0, .ref im, .ref kp, .ref me, .ref tc, .int 0]) := by rw [eσ2]; exact kq_far (kq_ne hS_m9 hS_dr9 kq_noa) hS_m9
    have nhS_dr : σ2 dr = .inl (E.2 0, 65, .inl (upd f9 (Int32.toNatClampNeg (nI i)) 0)) := by rw [eσ2]; exact va_up_self _ _ _
    have hS_m_ := nhS_m_
    have hS_dr := nhS_dr
    refine lv_iinc (v := nI i + 1) (lv' := [(1, .int (nI i + 1)), (0, .ref m_)]) hx hb dX8_gate_15 hl (k := 0) rfl rfl (by decide) rfl (fun ls hl => ?_)
    refine lv_goto (tgt := 2) hx hb dX8_gate_18 (by decide) ?_
    have hl : lv_has ls 2 [(1, .int (nI (i + 1))), (0, .ref m_)] := by rw [nI_succ]; exact lv_sub hl [0, 1] rfl
    exact W.widen (by omega) (by omega) (ih _ _ _ _ _ ⟨rfl, fun b hb9 => by rw [eσ2, va_up_ne _ _ hb9]; exact hfr9 b hb9, _, hS_dr⟩ hw hl)
  · skip
    have hl : lv_has ls 2 [(1, .int (nI 65)), (0, .ref m_)] := hl
    obtain ⟨rfl, hfr9, f9, hS_dr9⟩ := hI
    have hS_m9 : σv m_ = .inr (8, [.ref la, .ref mn, .ref it, .ref sp, .int 0, .ref tp, .int 0, .int 0, .int 0, .int 0, .int 0, .int 0, .int 0, .ref nw, .ref dr, .ref tr, .ref pa, .int 0, .ref im, .ref kp, .ref me, .ref tc, .int 0]) := (hfr9 m_ (kq_ne hS_m_ hS_dr kq_noa)).trans hS_m_
    refine lv_iload_n hx hb dX8_gate_2 rfl (lv_at hl 0 rfl) ?_
    refine lv_bipush (v := 65) hx hb dX8_gate_3 (by decide) ?_
    refine lv_icmp_ge (tgt := 21) hx hb dX8_gate_5 (by decide) (fun c3 => ?_) (fun c3 => ?_)
    rotate_left
    · exact absurd (by decide) c3
    refine lv_aload_n hx hb dX8_gate_21 rfl (lv_at hl 1 rfl) ?_
    refine lv_iconst (v := 0) hx hb dX8_gate_22 (by decide) ?_
    refine kq_put (ci := 8) (v := .int 0) (ty := .int) (C := RX8) (T := TX8) (N := 23) (fs' := [.ref la, .ref mn, .ref it, .ref sp, .int 0, .ref tp, .int 0, .int 0, .int 0, .int 0, .int 0, .int 0, .int 0, .ref nw, .ref dr, .ref tr, .ref pa, .int 0, .ref im, .ref kp, .ref me, .ref tc, .int 0]) hx hb hts (by decide +kernel) tyX8 tyX8_ok nmX8 hown hK hw hL_m_ hS_m9 rfl 9 (by decide) (hts (.fieldLink RX8 86 "WrongWordModel" "at" "I") (by decide +kernel)) rfl (by decide +kernel) rfl rfl (Nat.le_of_ble_eq_true rfl) rfl dX8_gate_23 (fun H locs σ4 eσ4 hw => ?_)
    have nhS_dr : σ4 dr = .inl (E.2 0, 65, .inl f9) := by rw [eσ4]; exact kq_far (kq_ne hS_dr9 hS_m9 kq_nao) hS_dr9
    have nhS_m_ : σ4 m_ = .inr (8, [.ref la, .ref mn, .ref it, .ref sp, .int 0, .ref tp, .int 0, .int 0, .int 0, .int 0, .int 0, .int 0, .int 0, .ref nw, .ref dr, .ref tr, .ref pa, .int 0, .ref im, .ref kp, .ref me, .ref tc, .int 0]) := by rw [eσ4]; exact va_up_self _ _ _
    have hS_dr := nhS_dr
    have hS_m_ := nhS_m_
    refine lv_aload_n hx hb dX8_gate_26 rfl (lv_at hl 1 rfl) ?_
    refine lv_iconst (v := (-1)) hx hb dX8_gate_27 (by decide) ?_
    refine kq_put (ci := 8) (v := .int ((-1))) (ty := .int) (C := RX8) (T := TX8) (N := 23) (fs' := [.ref la, .ref mn, .ref it, .ref sp, .int 0, .ref tp, .int 0, .int 0, .int ((-1)), .int 0, .int 0, .int 0, .int 0, .ref nw, .ref dr, .ref tr, .ref pa, .int 0, .ref im, .ref kp, .ref me, .ref tc, .int 0]) hx hb hts (by decide +kernel) tyX8 tyX8_ok nmX8 hown hK hw hL_m_ hS_m_ rfl 8 (by decide) (hts (.fieldLink RX8 101 "WrongWordModel" "faultPlace" "I") (by decide +kernel)) rfl (by decide +kernel) rfl rfl (Nat.le_of_ble_eq_true rfl) rfl dX8_gate_28 (fun H locs σ5 eσ5 hw => ?_)
    have nhS_dr : σ5 dr = .inl (E.2 0, 65, .inl f9) := by rw [eσ5]; exact kq_far (kq_ne hS_dr hS_m_ kq_nao) hS_dr
    have nhS_m_ : σ5 m_ = .inr (8, [.ref la, .ref mn, .ref it, .ref sp, .int 0, .ref tp, .int 0, .int 0, .int ((-1)), .int 0, .int 0, .int 0, .int 0, .ref nw, .ref dr, .ref tr, .ref pa, .int 0, .ref im, .ref kp, .ref me, .ref tc, .int 0]) := by rw [eσ5]; exact va_up_self _ _ _
    have hS_dr := nhS_dr
    have hS_m_ := nhS_m_
    refine lv_aload_n hx hb dX8_gate_31 rfl (lv_at hl 1 rfl) ?_
    refine kq_callV (As := []) (rest := []) (n := 0) (q := (RX8, TX8, 23)) (ci := 8) (mc := 0) (ms := 0) ⟨hx, hb, hml, hown, hts⟩ (c_X8_advances l E L σ5 hL_m_ hS_m_) gX8_gate_X8_advances rfl (by decide +kernel) ⟨Nat.le_of_ble_eq_true rfl, Nat.le_of_ble_eq_true rfl⟩ hK hw hL_m_ hS_m_ rfl rfl hl.1 rfl (Nat.le_of_ble_eq_true rfl) dX8_gate_32 rfl rfl ⟨Nat.le_of_ble_eq_true rfl, Nat.le_of_ble_eq_true rfl⟩ (fun Lv σ7 H locs hp hw => ?_)
    obtain ⟨rfl, hfrσ7, hc0_σ7⟩ := hp
    have nhS_dr : σ7 dr = .inl (E.2 0, 65, .inl f9) := (hfrσ7 dr (kq_ne hS_dr hS_m_ kq_nao)).trans hS_dr
    have nhS_m_ : σ7 m_ = .inr (8, [.ref la, .ref mn, .ref it, .ref sp, .int 0, .ref tp, .int 0, .int 0, .int ((-1)), .int 0, .int 0, .int 0, .int ((-1)), .ref nw, .ref dr, .ref tr, .ref pa, .int 0, .ref im, .ref kp, .ref me, .ref tc, .int 0]) := hc0_σ7
    have hS_dr := nhS_dr
    have hS_m_ := nhS_m_
    refine lv_aload_n hx hb dX8_gate_35 rfl (lv_at hl 1 rfl) ?_
    refine lv_aload_n hx hb dX8_gate_36 rfl (lv_at hl 1 rfl) ?_
    refine kq_get (ci := 8) (v := .int 0) (C := RX8) (T := TX8) (N := 23) hx hb hts (by decide +kernel) hown hK hw hL_m_ hS_m_ rfl 11 (by decide) (hts (.fieldLink RX8 98 "WrongWordModel" "token" "I") (by decide +kernel)) rfl dX8_gate_37 ?_
    refine lv_iconst (v := 1) hx hb dX8_gate_40 (by decide) ?_
    refine lv_icmp_ne (tgt := 57) hx hb dX8_gate_41 (by decide) (fun c8 => ?_) (fun c8 => ?_)
    · skip
      refine lv_iconst (v := 0) hx hb dX8_gate_57 (by decide) ?_
      refine lv_iconst (v := 1) hx hb dX8_gate_58 (by decide) ?_
      refine kq_callI (As := [.int 0, .int 1]) (rest := []) (n := 2) (q := (RX8, TX8, 23)) (ci := 8) (mc := 0) (ms := 0) ⟨hx, hb, hml, hown, hts⟩ (c_X8_takes_w l E L σ7 hL_m_ hS_m_) gX8_gate_X8_takes rfl (by decide +kernel) ⟨Nat.le_of_ble_eq_true rfl, Nat.le_of_ble_eq_true rfl⟩ hK hw hL_m_ hS_m_ rfl rfl hl.1 rfl (Nat.le_of_ble_eq_true rfl) dX8_gate_59 rfl rfl ⟨Nat.le_of_ble_eq_true rfl, Nat.le_of_ble_eq_true rfl⟩ (fun r9 Lv σ10 H locs hp hw => ?_)
      obtain ⟨er9, rfl, hfrσ10, hc0_σ10⟩ := hp
      have nhS_dr : σ10 dr = .inl (E.2 0, 65, .inl f9) := (hfrσ10 dr (kq_ne hS_dr hS_m_ kq_nao)).trans hS_dr
      have nhS_m_ : σ10 m_ = .inr (8, [.ref la, .ref mn, .ref it, .ref sp, .int 0, .ref tp, .int 0, .int 1, .int 0, .int 0, .int 0, .int 0, .int ((-1)), .ref nw, .ref dr, .ref tr, .ref pa, .int 0, .ref im, .ref kp, .ref me, .ref tc, .int 0]) := hc0_σ10
      have hS_dr := nhS_dr
      have hS_m_ := nhS_m_
      have er9 : r9 = 0 := er9
      subst er9
      refine lv_pop hx hb dX8_gate_62 rfl ?_
      refine lv_aload_n hx hb dX8_gate_63 rfl (lv_at hl 1 rfl) ?_
      refine kq_get (ci := 8) (v := .ref dr) (C := RX8) (T := TX8) (N := 23) hx hb hts (by decide +kernel) hown hK hw hL_m_ hS_m_ rfl 14 (by decide) (hts (.fieldLink RX8 28 "WrongWordModel" "draft" "[I") (by decide +kernel)) rfl dX8_gate_64 ?_
      refine lv_iconst (v := 0) hx hb dX8_gate_67 (by decide) ?_
      refine lv_aload_n hx hb dX8_gate_68 rfl (lv_at hl 1 rfl) ?_
      refine lv_iconst (v := 0) hx hb dX8_gate_69 (by decide) ?_
      refine lv_bipush (v := 9) hx hb dX8_gate_70 (by decide) ?_
      refine kq_callI (As := [.int 0, .int 9]) (rest := [.int 0, .ref dr]) (n := 2) (q := (RX8, TX8, 23)) (ci := 8) (mc := 0) (ms := 0) ⟨hx, hb, hml, hown, hts⟩ (c_X8_figure l E L σ10 0 9 hL_m_ hS_m_) gX8_gate_X8_figure rfl (by decide +kernel) ⟨Nat.le_of_ble_eq_true rfl, Nat.le_of_ble_eq_true rfl⟩ hK hw hL_m_ hS_m_ rfl rfl hl.1 rfl (Nat.le_of_ble_eq_true rfl) dX8_gate_72 rfl rfl ⟨Nat.le_of_ble_eq_true rfl, Nat.le_of_ble_eq_true rfl⟩ (fun r11 Lv σv H locs hp hw => ?_)
      obtain ⟨er11, rfl, rfl⟩ := hp
      have er11 : r11 = 0 := er11
      subst er11
      refine kq_iast hx hb hK hw hL_dr hS_dr (by unfold vp_in; decide) dX8_gate_75 (fun H locs σ12 eσ12 hw => ?_)
      have nhS_m_ : σ12 m_ = .inr (8, [.ref la, .ref mn, .ref it, .ref sp, .int 0, .ref tp, .int 0, .int 1, .int 0, .int 0, .int 0, .int 0, .int ((-1)), .ref nw, .ref dr, .ref tr, .ref pa, .int 0, .ref im, .ref kp, .ref me, .ref tc, .int 0]) := by rw [eσ12]; exact kq_far (kq_ne hS_m_ hS_dr kq_noa) hS_m_
      have nhS_dr : σ12 dr = .inl (E.2 0, 65, .inl (upd f9 (Int32.toNatClampNeg 0) 0)) := by rw [eσ12]; exact va_up_self _ _ _
      have hS_m_ := nhS_m_
      have hS_dr := nhS_dr
      refine lv_aload_n hx hb dX8_gate_76 rfl (lv_at hl 1 rfl) ?_
      refine kq_get (ci := 8) (v := .ref dr) (C := RX8) (T := TX8) (N := 23) hx hb hts (by decide +kernel) hown hK hw hL_m_ hS_m_ rfl 14 (by decide) (hts (.fieldLink RX8 28 "WrongWordModel" "draft" "[I") (by decide +kernel)) rfl dX8_gate_77 ?_
      refine lv_iconst (v := 1) hx hb dX8_gate_80 (by decide) ?_
      refine lv_aload_n hx hb dX8_gate_81 rfl (lv_at hl 1 rfl) ?_
      refine lv_iconst (v := 0) hx hb dX8_gate_82 (by decide) ?_
      refine lv_bipush (v := 9) hx hb dX8_gate_83 (by decide) ?_
      refine kq_callI (As := [.int 0, .int 9]) (rest := [.int 1, .ref dr]) (n := 2) (q := (RX8, TX8, 23)) (ci := 8) (mc := 0) (ms := 0) ⟨hx, hb, hml, hown, hts⟩ (c_X8_follows l E L σ12 0 9 hL_m_ hS_m_) gX8_gate_X8_follows rfl (by decide +kernel) ⟨Nat.le_of_ble_eq_true rfl, Nat.le_of_ble_eq_true rfl⟩ hK hw hL_m_ hS_m_ rfl rfl hl.1 rfl (Nat.le_of_ble_eq_true rfl) dX8_gate_85 rfl rfl ⟨Nat.le_of_ble_eq_true rfl, Nat.le_of_ble_eq_true rfl⟩ (fun r13 Lv σv H locs hp hw => ?_)
      obtain ⟨er13, rfl, rfl⟩ := hp
      have er13 : r13 = 0 := er13
      subst er13
      refine kq_iast hx hb hK hw hL_dr hS_dr (by unfold vp_in; decide) dX8_gate_88 (fun H locs σ14 eσ14 hw => ?_)
      have nhS_m_ : σ14 m_ = .inr (8, [.ref la, .ref mn, .ref it, .ref sp, .int 0, .ref tp, .int 0, .int 1, .int 0, .int 0, .int 0, .int 0, .int ((-1)), .ref nw, .ref dr, .ref tr, .ref pa, .int 0, .ref im, .ref kp, .ref me, .ref tc, .int 0]) := by rw [eσ14]; exact kq_far (kq_ne hS_m_ hS_dr kq_noa) hS_m_
      have nhS_dr : σ14 dr = .inl (E.2 0, 65, .inl (upd (upd f9 (Int32.toNatClampNeg 0) 0) (Int32.toNatClampNeg 1) 0)) := by rw [eσ14]; exact va_up_self _ _ _
      have hS_m_ := nhS_m_
      have hS_dr := nhS_dr
      refine lv_aload_n hx hb dX8_gate_89 rfl (lv_at hl 1 rfl) ?_
      refine kq_get (ci := 8) (v := .ref dr) (C := RX8) (T := TX8) (N := 23) hx hb hts (by decide +kernel) hown hK hw hL_m_ hS_m_ rfl 14 (by decide) (hts (.fieldLink RX8 28 "WrongWordModel" "draft" "[I") (by decide +kernel)) rfl dX8_gate_90 ?_
      refine lv_iconst (v := 2) hx hb dX8_gate_93 (by decide) ?_
      refine lv_aload_n hx hb dX8_gate_94 rfl (lv_at hl 1 rfl) ?_
      refine lv_iconst (v := 0) hx hb dX8_gate_95 (by decide) ?_
      refine lv_bipush (v := 6) hx hb dX8_gate_96 (by decide) ?_
      refine kq_callI (As := [.int 0, .int 6]) (rest := [.int 2, .ref dr]) (n := 2) (q := (RX8, TX8, 23)) (ci := 8) (mc := 0) (ms := 0) ⟨hx, hb, hml, hown, hts⟩ (c_X8_follows l E L σ14 0 6 hL_m_ hS_m_) gX8_gate_X8_follows rfl (by decide +kernel) ⟨Nat.le_of_ble_eq_true rfl, Nat.le_of_ble_eq_true rfl⟩ hK hw hL_m_ hS_m_ rfl rfl hl.1 rfl (Nat.le_of_ble_eq_true rfl) dX8_gate_98 rfl rfl ⟨Nat.le_of_ble_eq_true rfl, Nat.le_of_ble_eq_true rfl⟩ (fun r15 Lv σv H locs hp hw => ?_)
      obtain ⟨er15, rfl, rfl⟩ := hp
      have er15 : r15 = 0 := er15
      subst er15
      refine kq_iast hx hb hK hw hL_dr hS_dr (by unfold vp_in; decide) dX8_gate_101 (fun H locs σ16 eσ16 hw => ?_)
      have nhS_m_ : σ16 m_ = .inr (8, [.ref la, .ref mn, .ref it, .ref sp, .int 0, .ref tp, .int 0, .int 1, .int 0, .int 0, .int 0, .int 0, .int ((-1)), .ref nw, .ref dr, .ref tr, .ref pa, .int 0, .ref im, .ref kp, .ref me, .ref tc, .int 0]) := by rw [eσ16]; exact kq_far (kq_ne hS_m_ hS_dr kq_noa) hS_m_
      have nhS_dr : σ16 dr = .inl (E.2 0, 65, .inl (upd (upd (upd f9 (Int32.toNatClampNeg 0) 0) (Int32.toNatClampNeg 1) 0) (Int32.toNatClampNeg 2) 0)) := by rw [eσ16]; exact va_up_self _ _ _
      have hS_m_ := nhS_m_
      have hS_dr := nhS_dr
      refine lv_aload_n hx hb dX8_gate_102 rfl (lv_at hl 1 rfl) ?_
      refine lv_aload_n hx hb dX8_gate_103 rfl (lv_at hl 1 rfl) ?_
      refine kq_get (ci := 8) (v := .int 0) (C := RX8) (T := TX8) (N := 23) hx hb hts (by decide +kernel) hown hK hw hL_m_ hS_m_ rfl 11 (by decide) (hts (.fieldLink RX8 98 "WrongWordModel" "token" "I") (by decide +kernel)) rfl dX8_gate_104 ?_
      refine lv_iconst (v := 4) hx hb dX8_gate_107 (by decide) ?_
      refine lv_icmp_ne (tgt := 115) hx hb dX8_gate_108 (by decide) (fun c17 => ?_) (fun c17 => ?_)
      · skip
        refine lv_iconst (v := 0) hx hb dX8_gate_115 (by decide) ?_
        refine lv_iconst (v := 1) hx hb dX8_gate_116 (by decide) ?_
        refine kq_callI (As := [.int 0, .int 1]) (rest := []) (n := 2) (q := (RX8, TX8, 23)) (ci := 8) (mc := 0) (ms := 0) ⟨hx, hb, hml, hown, hts⟩ (c_X8_takes_n l E L σ16 0 1 hL_m_ hS_m_) gX8_gate_X8_takes rfl (by decide +kernel) ⟨Nat.le_of_ble_eq_true rfl, Nat.le_of_ble_eq_true rfl⟩ hK hw hL_m_ hS_m_ rfl rfl hl.1 rfl (Nat.le_of_ble_eq_true rfl) dX8_gate_117 rfl rfl ⟨Nat.le_of_ble_eq_true rfl, Nat.le_of_ble_eq_true rfl⟩ (fun r18 Lv σv H locs hp hw => ?_)
        obtain ⟨er18, rfl, rfl⟩ := hp
        have er18 : r18 = 0 := er18
        subst er18
        refine lv_pop hx hb dX8_gate_120 rfl ?_
        refine lv_aload_n hx hb dX8_gate_121 rfl (lv_at hl 1 rfl) ?_
        refine lv_aload_n hx hb dX8_gate_122 rfl (lv_at hl 1 rfl) ?_
        refine kq_get (ci := 8) (v := .int 0) (C := RX8) (T := TX8) (N := 23) hx hb hts (by decide +kernel) hown hK hw hL_m_ hS_m_ rfl 11 (by decide) (hts (.fieldLink RX8 98 "WrongWordModel" "token" "I") (by decide +kernel)) rfl dX8_gate_123 ?_
        refine lv_iconst (v := 1) hx hb dX8_gate_126 (by decide) ?_
        refine lv_icmp_ne (tgt := 143) hx hb dX8_gate_127 (by decide) (fun c19 => ?_) (fun c19 => ?_)
        · skip
          refine lv_iconst (v := 0) hx hb dX8_gate_143 (by decide) ?_
          refine kq_callV (As := [.int 0]) (rest := []) (n := 1) (q := (RX8, TX8, 23)) (ci := 8) (mc := 0) (ms := 0) ⟨hx, hb, hml, hown, hts⟩ (c_X8_must l E L σ16 0 hL_m_ hS_m_) gX8_gate_X8_must rfl (by decide +kernel) ⟨Nat.le_of_ble_eq_true rfl, Nat.le_of_ble_eq_true rfl⟩ hK hw hL_m_ hS_m_ rfl rfl hl.1 rfl (Nat.le_of_ble_eq_true rfl) dX8_gate_144 rfl rfl ⟨Nat.le_of_ble_eq_true rfl, Nat.le_of_ble_eq_true rfl⟩ (fun Lv σv H locs hp hw => ?_)
          obtain ⟨rfl, rfl⟩ := hp
          refine lv_aload_n hx hb dX8_gate_147 rfl (lv_at hl 1 rfl) ?_
          refine kq_callI (As := []) (rest := []) (n := 0) (q := (RX8, TX8, 23)) (ci := 8) (mc := 0) (ms := 0) ⟨hx, hb, hml, hown, hts⟩ (c_X8_isWell_n l E L σ16 hL_m_ hS_m_) gX8_gate_X8_isWell rfl (by decide +kernel) ⟨Nat.le_of_ble_eq_true rfl, Nat.le_of_ble_eq_true rfl⟩ hK hw hL_m_ hS_m_ rfl rfl hl.1 rfl (Nat.le_of_ble_eq_true rfl) dX8_gate_148 rfl rfl ⟨Nat.le_of_ble_eq_true rfl, Nat.le_of_ble_eq_true rfl⟩ (fun r20 Lv σv H locs hp hw => ?_)
          obtain ⟨er20, rfl, rfl⟩ := hp
          have er20 : r20 = 0 := er20
          subst er20
          refine lv_if_eq (tgt := 178) hx hb dX8_gate_151 (by decide) (fun c21 => ?_) (fun c21 => ?_)
          · skip
            refine lv_aload_n hx hb dX8_gate_178 rfl (lv_at hl 1 rfl) ?_
            refine lv_aload_n hx hb dX8_gate_179 rfl (lv_at hl 1 rfl) ?_
            refine kq_get (ci := 8) (v := .int 0) (C := RX8) (T := TX8) (N := 23) hx hb hts (by decide +kernel) hown hK hw hL_m_ hS_m_ rfl 11 (by decide) (hts (.fieldLink RX8 98 "WrongWordModel" "token" "I") (by decide +kernel)) rfl dX8_gate_180 ?_
            refine lv_iconst (v := 1) hx hb dX8_gate_183 (by decide) ?_
            refine lv_icmp_ne (tgt := 201) hx hb dX8_gate_184 (by decide) (fun c22 => ?_) (fun c22 => ?_)
            · skip
              refine lv_iconst (v := 0) hx hb dX8_gate_201 (by decide) ?_
              refine kq_callV (As := [.int 0]) (rest := []) (n := 1) (q := (RX8, TX8, 23)) (ci := 8) (mc := 0) (ms := 0) ⟨hx, hb, hml, hown, hts⟩ (c_X8_must l E L σ16 0 hL_m_ hS_m_) gX8_gate_X8_must rfl (by decide +kernel) ⟨Nat.le_of_ble_eq_true rfl, Nat.le_of_ble_eq_true rfl⟩ hK hw hL_m_ hS_m_ rfl rfl hl.1 rfl (Nat.le_of_ble_eq_true rfl) dX8_gate_202 rfl rfl ⟨Nat.le_of_ble_eq_true rfl, Nat.le_of_ble_eq_true rfl⟩ (fun Lv σv H locs hp hw => ?_)
              obtain ⟨rfl, rfl⟩ := hp
              refine lv_aload_n hx hb dX8_gate_205 rfl (lv_at hl 1 rfl) ?_
              refine kq_callI (As := []) (rest := []) (n := 0) (q := (RX8, TX8, 23)) (ci := 8) (mc := 0) (ms := 0) ⟨hx, hb, hml, hown, hts⟩ (c_X8_isWell_n l E L σ16 hL_m_ hS_m_) gX8_gate_X8_isWell rfl (by decide +kernel) ⟨Nat.le_of_ble_eq_true rfl, Nat.le_of_ble_eq_true rfl⟩ hK hw hL_m_ hS_m_ rfl rfl hl.1 rfl (Nat.le_of_ble_eq_true rfl) dX8_gate_206 rfl rfl ⟨Nat.le_of_ble_eq_true rfl, Nat.le_of_ble_eq_true rfl⟩ (fun r23 Lv σv H locs hp hw => ?_)
              obtain ⟨er23, rfl, rfl⟩ := hp
              have er23 : r23 = 0 := er23
              subst er23
              refine lv_if_eq (tgt := 237) hx hb dX8_gate_209 (by decide) (fun c24 => ?_) (fun c24 => ?_)
              · skip
                refine lv_aload_n hx hb dX8_gate_237 rfl (lv_at hl 1 rfl) ?_
                refine lv_aload_n hx hb dX8_gate_238 rfl (lv_at hl 1 rfl) ?_
                refine kq_get (ci := 8) (v := .int 0) (C := RX8) (T := TX8) (N := 23) hx hb hts (by decide +kernel) hown hK hw hL_m_ hS_m_ rfl 11 (by decide) (hts (.fieldLink RX8 98 "WrongWordModel" "token" "I") (by decide +kernel)) rfl dX8_gate_239 ?_
                refine lv_if_ne (tgt := 249) hx hb dX8_gate_242 (by decide) (fun c25 => ?_) (fun c25 => ?_)
                · skip
                  exact absurd c25 (by decide)
                · skip
                  refine lv_iconst (v := 1) hx hb dX8_gate_245 (by decide) ?_
                  refine lv_goto (tgt := 250) hx hb dX8_gate_246 (by decide) ?_
                  refine kq_callV (As := [.int 1]) (rest := []) (n := 1) (q := (RX8, TX8, 23)) (ci := 8) (mc := 0) (ms := 0) ⟨hx, hb, hml, hown, hts⟩ (c_X8_must l E L σ16 1 hL_m_ hS_m_) gX8_gate_X8_must rfl (by decide +kernel) ⟨Nat.le_of_ble_eq_true rfl, Nat.le_of_ble_eq_true rfl⟩ hK hw hL_m_ hS_m_ rfl rfl hl.1 rfl (Nat.le_of_ble_eq_true rfl) dX8_gate_250 rfl rfl ⟨Nat.le_of_ble_eq_true rfl, Nat.le_of_ble_eq_true rfl⟩ (fun Lv σv H locs hp hw => ?_)
                  obtain ⟨rfl, rfl⟩ := hp
                  refine lv_aload_n hx hb dX8_gate_253 rfl (lv_at hl 1 rfl) ?_
                  refine lv_iconst (v := 0) hx hb dX8_gate_254 (by decide) ?_
                  refine kq_put (ci := 8) (v := .int 0) (ty := .int) (C := RX8) (T := TX8) (N := 23) (fs' := [.ref la, .ref mn, .ref it, .ref sp, .int 0, .ref tp, .int 0, .int 1, .int 0, .int 0, .int 0, .int 0, .int ((-1)), .ref nw, .ref dr, .ref tr, .ref pa, .int 0, .ref im, .ref kp, .ref me, .ref tc, .int 0]) hx hb hts (by decide +kernel) tyX8 tyX8_ok nmX8 hown hK hw hL_m_ hS_m_ rfl 6 (by decide) (hts (.fieldLink RX8 82 "WrongWordModel" "taped" "I") (by decide +kernel)) rfl (by decide +kernel) rfl rfl (Nat.le_of_ble_eq_true rfl) rfl dX8_gate_255 (fun H locs σ26 eσ26 hw => ?_)
                  have nhS_dr : σ26 dr = .inl (E.2 0, 65, .inl (upd (upd (upd f9 (Int32.toNatClampNeg 0) 0) (Int32.toNatClampNeg 1) 0) (Int32.toNatClampNeg 2) 0)) := by rw [eσ26]; exact kq_far (kq_ne hS_dr hS_m_ kq_nao) hS_dr
                  have nhS_m_ : σ26 m_ = .inr (8, [.ref la, .ref mn, .ref it, .ref sp, .int 0, .ref tp, .int 0, .int 1, .int 0, .int 0, .int 0, .int 0, .int ((-1)), .ref nw, .ref dr, .ref tr, .ref pa, .int 0, .ref im, .ref kp, .ref me, .ref tc, .int 0]) := by rw [eσ26]; exact va_up_self _ _ _
                  have hS_dr := nhS_dr
                  have hS_m_ := nhS_m_
                  refine lv_aload_n hx hb dX8_gate_258 rfl (lv_at hl 1 rfl) ?_
                  refine kq_callI (As := []) (rest := []) (n := 0) (q := (RX8, TX8, 23)) (ci := 8) (mc := 0) (ms := 0) ⟨hx, hb, hml, hown, hts⟩ (c_X8_isWell_n l E L σ26 hL_m_ hS_m_) gX8_gate_X8_isWell rfl (by decide +kernel) ⟨Nat.le_of_ble_eq_true rfl, Nat.le_of_ble_eq_true rfl⟩ hK hw hL_m_ hS_m_ rfl rfl hl.1 rfl (Nat.le_of_ble_eq_true rfl) dX8_gate_259 rfl rfl ⟨Nat.le_of_ble_eq_true rfl, Nat.le_of_ble_eq_true rfl⟩ (fun r27 Lv σv H locs hp hw => ?_)
                  obtain ⟨er27, rfl, rfl⟩ := hp
                  have er27 : r27 = 0 := er27
                  subst er27
                  refine lv_if_ne (tgt := 273) hx hb dX8_gate_262 (by decide) (fun c28 => ?_) (fun c28 => ?_)
                  · skip
                    exact absurd c28 (by decide)
                  · skip
                    refine lv_ldc (v := (-1000100)) hx hb hown (hts (.constant RX8 144 (-1000100)) (by decide +kernel)) dX8_gate_265 ?_
                    refine lv_aload_n hx hb dX8_gate_267 rfl (lv_at hl 1 rfl) ?_
                    refine kq_get (ci := 8) (v := .int 0) (C := RX8) (T := TX8) (N := 23) hx hb hts (by decide +kernel) hown hK hw hL_m_ hS_m_ rfl 8 (by decide) (hts (.fieldLink RX8 101 "WrongWordModel" "faultPlace" "I") (by decide +kernel)) rfl dX8_gate_268 ?_
                    refine lv_isub hx hb dX8_gate_271 ?_
                    refine lv_topi (fun v29 ev29 => ?_)
                    have ev29 : v29 = (-1000100) := by rw [ev29]; decide
                    subst ev29
                    exact kq_iret hx hb hr hlocks hw (Nat.le_of_ble_eq_true rfl) (Nat.le_of_ble_eq_true rfl) dX8_gate_272 rfl
              · skip
                exact absurd (by decide) c24
            · skip
              exact absurd c22 (by decide)
          · skip
            exact absurd (by decide) c21
        · skip
          exact absurd c19 (by decide)
      · skip
        exact absurd c17 (by decide)
    · skip
      exact absurd c8 (by decide)
