/-! the class's tables -/
/-- the secrets by which a man who is sent is taken; a man is his word and hour in one number -/
def cN (v : Mm) (j : Nat) : Nat := bsN (SCB v (j / 6) (nI (j % 6))) (Int32.toNatClampNeg (v 6 0 6))
theorem cN_lt {v : Mm} (h : (v 6 0 6).toInt ≤ 6) (j : Nat) : cN v j < 64 := by
  have c := tcn (v 6 0 6)
  exact bs_lt64 _ (by omega)
theorem cN_fr {v w : Mm} (h : FR [19, 20] v w) (j : Nat) : cN w j = cN v j := by
  have a7 : w 7 0 = v 7 0 := funext (fun k => h.at (t := 7) (by decide) (by decide) 0 k)
  have a8 : w 8 0 = v 8 0 := funext (fun k => h.at (t := 8) (by decide) (by decide) 0 k)
  have b6 : ∀ k, w 6 0 k = v 6 0 k := fun k => h.at (t := 6) (by decide) (by decide) 0 k
  have b10 : ∀ k, w 10 0 k = v 10 0 k := fun k => h.at (t := 10) (by decide) (by decide) 0 k
  unfold cN SCB
  rw [a7, a8, b6 7, b6 6, b10 6, b10 4]
theorem x_split {w : Mm} {c : Nat → Nat} {s T : Nat} (hs : s < 64) (hT : T ≤ 36) (hc : ∀ j, j < T → c j < 64 ∧ w 19 0 j = nI (c j)) : pk (g_X3_menToSplit w (nI s) (nI T)) (fun r => r = CFn (w 20 0) c s T) := by
  have e1 : (1 : Int32).toInt = 1 := by decide
  have nT := nI_int (k := T) (by omega)
  have loop : ∀ (n : Nat) (f x : Int32) (k : Nat), x.toInt = (k : Int) → k ≤ T → f = CFn (w 20 0) c s k → pk (g_X3_menToSplit_L7 w (nI s) (nI T) n f x) (fun r => r = CFn (w 20 0) c s T) := by
    intro n
    induction n with
    | zero => intro f x k _ _ _ b e; cases e
    | succ n ih =>
      intro f x k hx hk hf
      show pk (b_X3_menToSplit_L7 (g_X3_menToSplit_L7 w (nI s) (nI T) n) w (nI s) (nI T) f x) _
      unfold b_X3_menToSplit_L7
      refine pk_ite _ (fun q => ?_) (fun q => ?_)
      · have := i_le q
        obtain rfl : k = T := by omega
        exact pk_some hf
      · have := i_nle q
        have ex := sp_addx x 1 (by omega)
        have hc' : Int32.toNatClampNeg x = k := by rw [tcn]; omega
        obtain ⟨k1, k2⟩ := hc k (by omega)
        refine pk_grd _ (fun _ => pk_let (fun x3 e3 => ?_))
        rw [hc', k2, t_and s hs (c k) k1] at e3
        have x64 : s &&& c k < 64 := and_lt hs
        have st : CFn (w 20 0) c s (k + 1) = (if s &&& c k = 0 then f else (if s &&& c k = s then f else (if cfM (w 20 0) s (s &&& c k) < f then cfM (w 20 0) s (s &&& c k) else f))) := by rw [hf]; rfl
        have nxt : ∀ y, y = CFn (w 20 0) c s (k + 1) → pk (g_X3_menToSplit_L7 w (nI s) (nI T) n y (x + 1)) (fun r => r = CFn (w 20 0) c s T) := fun y hy => ih y (x + 1) (k + 1) (by omega) (by omega) hy
        rw [e3]
        by_cases z0 : s &&& c k = 0
        · rw [if_pos (show nI (s &&& c k) = 0 by rw [z0]; rfl)]
          exact nxt f (by rw [st, if_pos z0])
        rw [if_neg (show ¬ nI (s &&& c k) = 0 from fun q => z0 ((nI_eqk (a := s &&& c k) (b := 0) (by omega) (by omega)).mp q))]
        by_cases z1 : s &&& c k = s
        · rw [if_pos (show nI (s &&& c k) = nI s by rw [z1])]
          exact nxt f (by rw [st, if_neg z0, if_pos z1])
        rw [if_neg (show ¬ nI (s &&& c k) = nI s from fun q => z1 ((nI_eqk (by omega) (by omega)).mp q))]
        have l2 := t_xlt s hs (c k) k1 z0
        rw [t_xor6 s hs _ x64, tc_nI (k := s &&& c k) (by omega), tc_nI (k := s ^^^ (s &&& c k)) (by omega)]
        refine pk_grd _ (fun _ => pk_grd _ (fun _ => pk_let (fun x8 e8 => pk_let (fun x9 e9 => nxt x9 ?_))))
        have ec : cfM (w 20 0) s (s &&& c k) = (1 : Int32) + x8 := by rw [e8]; rfl
        rw [st, if_neg z0, if_neg z1, ec, e9]
  unfold g_X3_menToSplit
  exact loop 2000 1000 0 0 (by decide) (by omega) rfl
theorem x_L47 {vx : Mm} {W : Nat} (eW : vx 6 0 6 = nI W) (hW : W ≤ 6) {a : Nat} (ha : a < 2 ^ W) : ∀ (n : Nat) (w : Mm) (x4 : Int32) (s : Nat), x4 = nI s → FR [19, 20] vx w → (∀ j, j < 6 * W → w 19 0 j = nI (cN vx j)) → (∀ j, j < s → w 20 0 j = MXn (cN vx) (6 * W) j) → s ≤ 2 ^ W → pk (g_X3_fewestMen_L47 0 (nI a) n w (nI (6 * W)) x4) (fun z => z.1 = if 1000 ≤ MXn (cN vx) (6 * W) a then (-1000000) else MXn (cN vx) (6 * W) a) := by
  have e1 : (1 : Int32).toInt = 1 := by decide
  have nW := nI_int (k := W) (by omega)
  have p64 : 2 ^ W ≤ 2 ^ 6 := Nat.pow_le_pow_right (by omega) hW
  have p64 : 2 ^ W ≤ 64 := p64
  have hc : ∀ j, cN vx j < 64 := fun j => cN_lt (by rw [eW, nW]; omega) j
  have tp := t_pow W (by omega)
  intro n
  induction n with
  | zero => intro w x4 s _ _ _ _ _ b e; cases e
  | succ n ih =>
    intro w x4 s hx hf h19 h20 hs
    have w6 : w 6 0 6 = nI W := (hf.at (t := 6) (by decide) (by decide) 0 6).trans eW
    have ns := nI_int (k := s) (by omega)
    rw [hx]
    show pk (b_X3_fewestMen_L47 (g_X3_fewestMen_L47 0 (nI a) n) 0 (nI a) w (nI (6 * W)) (nI s)) _
    unfold b_X3_fewestMen_L47
    rw [w6]
    refine pk_ite _ (fun q => ?_) (fun q => ?_)
    · have q' := i_le q
      rw [tp, ns] at q'
      have hlt : a < s := by omega
      have tb := h20 a hlt
      refine pk_grd _ (fun _ => ?_)
      rw [tc_nI (k := a) (by omega), tb]
      refine pk_ite _ (fun z => pk_some ?_) (fun z => pk_grd _ (fun _ => pk_some ?_))
      · show (-1000000 : Int32) = _
        rw [if_pos z]
      · show MXn (cN vx) (6 * W) a = _
        rw [if_neg z]
    · have q' := i_nle q
      rw [tp, ns] at q'
      have s64 : s < 64 := by omega
      have pcs := nI_int (k := pc s) (by have := pc_le s; omega)
      have up : ∀ (r : Int32) (v14 : Mm), r = MXn (cN vx) (6 * W) s → v14 = up3 w 20 0 (Int32.toNatClampNeg (nI s)) r → pk (g_X3_fewestMen_L47 0 (nI a) n v14 (nI (6 * W)) (nI s + 1)) (fun z => z.1 = if 1000 ≤ MXn (cN vx) (6 * W) a then (-1000000) else MXn (cN vx) (6 * W) a) := by
        intro r v14 er e14
        rw [tc_nI (k := s) (by omega)] at e14
        refine ih v14 _ (s + 1) (nI_sc1 s) ?_ (fun j hj => ?_) (fun j hj => ?_) (by omega)
        · rw [e14]; exact hf.upa (by decide) (by decide)
        · rw [e14, up3_t (by decide)]; exact h19 j hj
        · rw [e14]
          by_cases z : j = s
          · rw [z, up3_s]; exact er
          · rw [up3_j z]; exact h20 j (by omega)
      rw [q_bc w s64, Option.bind_some]
      refine pk_ite _ (fun z => ?_) (fun z => ?_)
      · have z' := i_lt z
        refine pk_bind (x_split s64 (by omega) (fun j hj => ⟨hc j, h19 j hj⟩)) (fun r er => ?_)
        refine pk_grd _ (fun _ => pk_let (fun v14 e14 => up r v14 ?_ e14))
        have := MX_of (T := 6 * W) s64 hc h20
        rw [show FXn (cN vx) (6 * W) (w 20 0) s = CFn (w 20 0) (cN vx) s (6 * W) from if_neg (by omega)] at this
        exact er.trans this
      · have z' := i_nlt z
        refine pk_grd _ (fun _ => pk_let (fun v14 e14 => up 0 v14 ?_ e14))
        have := MX_of (T := 6 * W) s64 hc h20
        rw [show FXn (cN vx) (6 * W) (w 20 0) s = 0 from if_pos (by omega)] at this
        exact this
theorem x_few {vx vm : Mm} (hR : RG5 vx) (hG : GA vx vm) {W : Nat} (eW : vx 6 0 6 = nI W) (hW : W ≤ 6) {a : Nat} (ha : a < 2 ^ W) : pk (g_X3_fewestMen vx 0 (nI a)) (fun z => z.1 = if 1000 ≤ MXn (cN vx) (6 * W) a then (-1000000) else MXn (cN vx) (6 * W) a) := by
  have nW := nI_int (k := W) (by omega)
  have nT := nI_int (k := 6 * W) (by omega)
  have loop : ∀ (n : Nat) (w : Mm) (x4 : Int32) (k : Nat), x4 = nI k → FR [19, 20] vx w → (∀ j, j < k → w 19 0 j = nI (cN vx j)) → k ≤ 6 * W → pk (g_X3_fewestMen_L11 0 (nI a) n w (nI (6 * W)) x4) (fun z => z.1 = if 1000 ≤ MXn (cN vx) (6 * W) a then (-1000000) else MXn (cN vx) (6 * W) a) := by
    intro n
    induction n with
    | zero => intro w x4 k _ _ _ _ b e; cases e
    | succ n ih =>
      intro w x4 k hx hf h19 hk
      have nk := nI_int (k := k) (by omega)
      rw [hx]
      show pk (b_X3_fewestMen_L11 (g_X3_fewestMen_L11 0 (nI a) n) 0 (nI a) w (nI (6 * W)) (nI k)) _
      unfold b_X3_fewestMen_L11
      refine pk_ite _ (fun q => ?_) (fun q => ?_)
      · have q' := i_le q
        exact x_L47 eW hW ha 2000 w 0 0 (by decide) hf (fun j hj => h19 j (by omega)) (fun j hj => absurd hj (Nat.not_lt_zero j)) (Nat.zero_le _)
      · have q' := i_nle q
        obtain ⟨d1, d2⟩ := t_div6 k (by omega)
        have h6 : ∀ j, w 6 0 j = vx 6 0 j := fun j => hf.at (t := 6) (by decide) (by decide) 0 j
        have h10 : ∀ j, w 10 0 j = vx 10 0 j := fun j => hf.at (t := 10) (by decide) (by decide) 0 j
        have hRw := hR.eq h6 h10
        have hGw := hG.fr hf (FR.refl [] vm) (by decide) (by decide) (by decide)
        have n1 := nI_int (k := k / 6) (by omega)
        have n2 := nI_int (k := k % 6) (by omega)
        rw [d2, d1]
        refine pk_bind (x_catching hRw hGw.1.1 (w := nI (k / 6)) (hour := nI (k % 6)) (by rw [h6, eW]; omega) (by omega)) (fun r3 er3 => ?_)
        rw [tc_nI (k := k / 6) (by omega)] at er3
        have er3 : r3 = nI (cN w k) := er3
        rw [cN_fr hf] at er3
        refine pk_grd _ (fun _ => pk_let (fun v6 e6 => ?_))
        rw [tc_nI (k := k) (by omega)] at e6
        refine ih v6 _ (k + 1) (nI_sc1 k) ?_ (fun j hj => ?_) (by omega)
        · rw [e6]; exact hf.upa (by decide) (by decide)
        · rw [e6]
          by_cases z : j = k
          · rw [z, up3_s]; exact er3
          · rw [up3_j z]; exact h19 j (by omega)
  unfold g_X3_fewestMen
  rw [eW, t_mul6 W (by omega)]
  exact loop 2000 vx 0 0 (by decide) (FR.refl _ _) (fun j hj => absurd hj (Nat.not_lt_zero j)) (Nat.zero_le _)
/-! the reference's table -/
set_option maxHeartbeats 4000000 in
theorem m_L28 {vx w : Mm} (hR : RG5 vx) (h : GB vx w) {W wd s : Nat} (eW : vx 6 0 6 = nI W) (hW : W ≤ 6) (hwd : wd < W) (hs : s < 2 ^ W) {rec15 : Int32 → Int32 → Option Int32} {P : Int32 → Prop} (hP : pk (rec15 (RFn (w 42 0) (cN vx) s (6 * wd + 6)) (nI wd + 1)) P) : ∀ (n : Nat) (x2 x4 : Int32) (hh : Nat), x4 = nI hh → hh ≤ 6 → x2 = RFn (w 42 0) (cN vx) s (6 * wd + hh) → pk (g_X8_menFor_L28 rec15 w (nI s) n x2 (nI wd) x4) P := by
  have e6 : (6 : Int32).toInt = 6 := by decide
  have nW := nI_int (k := W) (by omega)
  have nw := nI_int (k := wd) (by omega)
  have p64 : 2 ^ W ≤ 2 ^ 6 := Nat.pow_le_pow_right (by omega) hW
  have p64 : 2 ^ W ≤ 64 := p64
  have s64 : s < 64 := by omega
  have cW : Int32.toNatClampNeg (vx 6 0 6) = W := by rw [eW]; exact tc_nI (by omega)
  intro n
  induction n with
  | zero => intro x2 x4 hh _ _ _ b e; cases e
  | succ n ih =>
    intro x2 x4 hh hx hk h2
    have nh := nI_int (k := hh) (by omega)
    rw [hx]
    show pk (b_X8_menFor_L28 rec15 (g_X8_menFor_L28 rec15 w (nI s) n) w (nI s) x2 (nI wd) (nI hh)) P
    unfold b_X8_menFor_L28
    refine pk_ite _ (fun c => ?_) (fun c => ?_)
    · have := i_le c
      obtain rfl : hh = 6 := by omega
      rw [h2]; exact hP
    · have c' := i_nle c
      have ck : cN vx (6 * wd + hh) = bsN (SCB vx wd (nI hh)) (Int32.toNatClampNeg (vx 6 0 6)) := by
        unfold cN
        rw [show (6 * wd + hh) / 6 = wd by omega, show (6 * wd + hh) % 6 = hh by omega]
      have c64 := cN_lt (v := vx) (by rw [eW, nW]; omega) (6 * wd + hh)
      refine pk_bind (m_takenOf hR h (a := s) (by rw [cW]; exact hs) (w := nI wd) (hour := nI hh) (by rw [eW]; omega) (by omega)) (fun r8 er8 => ?_)
      rw [tc_nI (k := wd) (by omega), ← ck] at er8
      obtain ⟨x, ex⟩ : ∃ x, x = s &&& cN vx (6 * wd + hh) := ⟨_, rfl⟩
      rw [← ex] at er8
      have x64 : x < 64 := by rw [ex]; exact and_lt s64
      have sx : s &&& x = x := by rw [ex, ← Nat.and_assoc, Nat.and_self]
      have xl : s ^^^ x < 64 := Nat.xor_lt_two_pow (n := 6) s64 x64
      have st : RFn (w 42 0) (cN vx) s (6 * wd + (hh + 1)) = (if x = 0 then x2 else (if x = s then x2 else (if w 42 0 x = (-1000000) then x2 else (if w 42 0 (s ^^^ x) = (-1000000) then x2 else (if x2 = (-1000000) then rfM (w 42 0) s x else (if x2 ≤ rfM (w 42 0) s x then x2 else rfM (w 42 0) s x)))))) := by
        rw [h2, ex]; rfl
      have nxt : ∀ y, y = RFn (w 42 0) (cN vx) s (6 * wd + (hh + 1)) → pk (g_X8_menFor_L28 rec15 w (nI s) n y (nI wd) (nI hh + 1)) P := fun y hy => ih y _ (hh + 1) (nI_sc1 hh) (by omega) hy
      have d1 := t_dif s s64 x x64
      rw [sx] at d1
      rw [er8, d1, tc_nI (k := x) (by omega), tc_nI (k := s ^^^ x) (by omega)]
      by_cases z0 : x = 0
      · rw [if_pos (show nI x = 0 by rw [z0]; rfl)]
        exact nxt _ (by rw [st, if_pos z0])
      rw [if_neg (show ¬ nI x = 0 from fun q => z0 ((nI_eqk (a := x) (b := 0) (by omega) (by omega)).mp q))]
      have xz := t_xz s s64 x x64
      rw [sx] at xz
      by_cases z1 : x = s
      · rw [if_pos (show nI (s ^^^ x) = 0 by rw [xz.mpr z1]; rfl)]
        exact nxt _ (by rw [st, if_neg z0, if_pos z1])
      rw [if_neg (show ¬ nI (s ^^^ x) = 0 from fun q => z1 (xz.mp ((nI_eqk (a := s ^^^ x) (b := 0) (by omega) (by omega)).mp q)))]
      refine pk_grd _ (fun _ => ?_)
      by_cases z2 : w 42 0 x = (-1000000)
      · rw [if_pos z2]
        exact nxt _ (by rw [st, if_neg z0, if_neg z1, if_pos z2])
      rw [if_neg z2]
      refine pk_grd _ (fun _ => ?_)
      by_cases z3 : w 42 0 (s ^^^ x) = (-1000000)
      · rw [if_pos z3]
        exact nxt _ (by rw [st, if_neg z0, if_neg z1, if_neg z2, if_pos z3])
      rw [if_neg z3]
      rw [if_neg z0, if_neg z1, if_neg z2, if_neg z3] at st
      have fin : ∀ y, y = rfM (w 42 0) s x → pk (if x2 = (-1000000) then (g_X8_menFor_L28 rec15 w (nI s) n y (nI wd) (nI hh + 1)) else (if x2 ≤ y then (g_X8_menFor_L28 rec15 w (nI s) n x2 (nI wd) (nI hh + 1)) else (g_X8_menFor_L28 rec15 w (nI s) n y (nI wd) (nI hh + 1)))) P := by
        intro y hy
        rw [← hy] at st
        refine pk_ite _ (fun q => nxt _ ?_) (fun q => pk_ite _ (fun q2 => nxt _ ?_) (fun q2 => nxt _ ?_))
        · rw [st, if_pos q]
        · rw [st, if_neg q, if_pos q2]
        · rw [st, if_neg q, if_neg q2]
      refine pk_grd _ (fun _ => pk_grd _ (fun _ => ?_))
      refine pk_ite _ (fun q => pk_grd _ (fun _ => pk_let (fun x20 e20 => fin x20 ?_))) (fun q => pk_grd _ (fun _ => pk_let (fun x24 e24 => fin x24 ?_)))
      · rw [e20]; exact (if_pos q).symm
      · rw [e24]; exact (if_neg q).symm
theorem m_men {vx w : Mm} (hR : RG5 vx) (h : GB vx w) {W s : Nat} (eW : vx 6 0 6 = nI W) (hW : W ≤ 6) (hs : s < 2 ^ W) : pk (g_X8_menFor w (nI s)) (fun r => r = FMn (cN vx) (6 * W) (w 42 0) s) := by
  have e2 : (2 : Int32).toInt = 2 := by decide
  have nW := nI_int (k := W) (by omega)
  have p64 : 2 ^ W ≤ 2 ^ 6 := Nat.pow_le_pow_right (by omega) hW
  have p64 : 2 ^ W ≤ 64 := p64
  have s64 : s < 64 := by omega
  have ew : w 36 0 3 = nI W := h.1.2.2.1.symm.trans eW
  have pcs := nI_int (k := pc s) (by have := pc_le s; omega)
  have loop : ∀ (n : Nat) (x2 x3 : Int32) (wd : Nat), x3 = nI wd → wd ≤ W → x2 = RFn (w 42 0) (cN vx) s (6 * wd) → pk (g_X8_menFor_L15 w (nI s) n x2 x3) (fun r => r = RFn (w 42 0) (cN vx) s (6 * W)) := by
    intro n
    induction n with
    | zero => intro x2 x3 wd _ _ _ b e; cases e
    | succ n ih =>
      intro x2 x3 wd hx hk h2
      have nwd := nI_int (k := wd) (by omega)
      rw [hx]
      show pk (b_X8_menFor_L15 (g_X8_menFor_L15 w (nI s) n) w (nI s) x2 (nI wd)) _
      unfold b_X8_menFor_L15
      rw [tc_3, ew]
      refine pk_ite _ (fun q => ?_) (fun q => ?_)
      · have := i_le q
        obtain rfl : wd = W := by omega
        exact pk_some h2
      · have := i_nle q
        exact m_L28 hR h eW hW (by omega) hs (ih _ _ (wd + 1) (nI_sc1 wd) (by omega) rfl) 2000 x2 0 0 (by decide) (by omega) h2
  unfold g_X8_menFor
  rw [q_ones w s64, Option.bind_some]
  refine pk_ite _ (fun q => ?_) (fun q => ?_)
  · have q' := i_le q
    rw [show FMn (cN vx) (6 * W) (w 42 0) s = RFn (w 42 0) (cN vx) s (6 * W) from if_neg (by omega)]
    exact loop 2000 _ _ 0 (by decide) (Nat.zero_le _) rfl
  · have q' := i_nle q
    rw [show FMn (cN vx) (6 * W) (w 42 0) s = 0 from if_pos (by omega)]
    exact pk_some rfl
theorem m_few {vx vm : Mm} (hR : RG5 vx) (hG : GA vx vm) {W : Nat} (eW : vx 6 0 6 = nI W) (hW : W ≤ 6) {a : Nat} (ha : a < 2 ^ W) : ∀ (n : Nat) (w : Mm) (x2 : Int32) (s : Nat), x2 = nI s → FR [42] vm w → (∀ j, j < s → w 42 0 j = MMn (cN vx) (6 * W) j) → s ≤ a + 1 → pk (g_X8_fewest_L17 n w (nI a) x2) (fun z => z.1 = MMn (cN vx) (6 * W) a) := by
  have nW := nI_int (k := W) (by omega)
  have p64 : 2 ^ W ≤ 2 ^ 6 := Nat.pow_le_pow_right (by omega) hW
  have p64 : 2 ^ W ≤ 64 := p64
  have hc : ∀ j, cN vx j < 64 := fun j => cN_lt (by rw [eW, nW]; omega) j
  have na := nI_int (k := a) (by omega)
  intro n
  induction n with
  | zero => intro w x2 s _ _ _ _ b e; cases e
  | succ n ih =>
    intro w x2 s hx hf h42 hs
    have ns := nI_int (k := s) (by omega)
    rw [hx]
    show pk (b_X8_fewest_L17 (g_X8_fewest_L17 n) w (nI a) (nI s)) _
    unfold b_X8_fewest_L17
    refine pk_ite _ (fun q => ?_) (fun q => ?_)
    · have := i_lt q
      refine pk_grd _ (fun _ => pk_some ?_)
      show w 42 0 (Int32.toNatClampNeg (nI a)) = _
      rw [tc_nI (k := a) (by omega)]
      exact h42 a (by omega)
    · have := i_nlt q
      have hGw := hG.fr (FR.refl [] vx) hf (by decide) (by decide) (by decide)
      refine pk_bind (m_men hR hGw.1 eW hW (s := s) (by omega)) (fun r er => ?_)
      refine pk_grd _ (fun _ => pk_let (fun v14 e14 => ?_))
      rw [tc_nI (k := s) (by omega)] at e14
      refine ih v14 _ (s + 1) (nI_sc1 s) ?_ (fun j hj => ?_) (by omega)
      · rw [e14]; exact hf.upa (by decide) (by decide)
      · rw [e14]
        by_cases z : j = s
        · rw [z, up3_s, er]; exact MM_of (by omega) hc h42
        · rw [up3_j z]; exact h42 j (by omega)
theorem r_fewest {vx vm : Mm} (hJ : J2 vx vm) : rel (g_X7_fewest vx) (g_X8_fewest vm) (fun a b => a.1 = b.1) := by
  have hS := hJ.2.1.1
  have hG := hJ.2.1
  have eK : (1000 : Int32).toInt = 1000 := by decide
  have hw : (0 : Int) ≤ (vx 6 0 6).toInt ∧ (vx 6 0 6).toInt ≤ (6 : Int) := hJ.1.1 6 0 6
  have e0 : (0 : Int32).toInt = 0 := by decide
  have ew : vx 6 0 6 = vm 36 0 3 := hS.2.2.1
  unfold g_X7_fewest g_X8_fewest
  rw [bx_nog, bm_isg vm (by rw [← ew]; exact hw.1), ← ew]
  refine rel_ite Iff.rfl (fun _ => rel_some rfl) (fun c0 => ?_)
  have c0' := i_ne c0
  have hR := RG5.of hJ.1.1 hJ.1.2.1 hS (by omega)
  have hT := TRY5.of hJ.1.1 hR hG
  obtain ⟨W, hW, eW⟩ := i_of (n := 7) hw.1 (by omega)
  have cW : Int32.toNatClampNeg (vx 6 0 6) = W := by rw [eW]; exact tc_nI (by omega)
  have nW := nI_int (k := W) (by omega)
  refine rel_bindL (x_agree hR (hS.kds hR.2.1.2).1 hT) (fun r er => rel_bindR (m_agree hR hG hT) (fun q eq => ?_))
  rw [er, eq, AGS_bs vx hw.2]
  have hA : AGN vx < 2 ^ W := by
    have := AGN_lt (v := vx)
    rw [cW] at this; exact this
  have hc : ∀ j, cN vx j < 64 := fun j => cN_lt hw.2 j
  have p64 : 2 ^ W ≤ 2 ^ 6 := Nat.pow_le_pow_right (by omega) (by omega)
  have p64 : 2 ^ W ≤ 64 := p64
  have hx := x_few hR hJ.2 eW (by omega) hA
  have hm := m_few hR hJ.2 eW (by omega) hA 2000 vm 0 0 (by decide) (FR.refl _ _) (fun j hj => absurd hj (Nat.not_lt_zero j)) (Nat.zero_le _)
  have hl := MX_RLf hc (6 * W) (AGN vx + 1) (AGN vx) (by omega) (by omega)
  refine rel_kb2L hx (fun r9 v10 h9 => rel_someL (hm.mono (fun z hz => ?_)))
  have h9 : r9 = if 1000 ≤ MXn (cN vx) (6 * W) (AGN vx) then (-1000000) else MXn (cN vx) (6 * W) (AGN vx) := h9
  show r9 = z.1
  rw [h9, hz]
  rcases hl with ⟨l1, l2⟩ | ⟨l1, l2, l3⟩
  · rw [l2, if_pos (Int32.le_iff_toInt_le.mpr (by omega)), l1]
  · rw [l1, if_neg (fun q => by have := i_le q; omega)]
