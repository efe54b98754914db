/-! fits: which kinds, or which secrets, tell a part of a row -/
def ftl (v : Mm) (i p : Nat) (kd : Int32) (s : Nat) : Nat → Int32
  | 0 => 1
  | k + 1 => if ftl v i p kd s k = 0 then 0 else if tkn (v 7 0) kd k s (v 10 0 4) = v 3 i (p + k) then 1 else 0
theorem ftl_z {v : Mm} {i p : Nat} {kd : Int32} {s k : Nat} (h : ftl v i p kd s k = 0) : ∀ m, k ≤ m → ftl v i p kd s m = 0 := by
  intro m
  induction m with
  | zero => intro q; obtain rfl : k = 0 := by omega
            exact h
  | succ m ih =>
    intro q
    by_cases e : k = m + 1
    · rw [← e]; exact h
    · exact if_pos (ih (by omega))
theorem ftl_p {v : Mm} {i p : Nat} {kd : Int32} {s k : Nat} (h : ¬ ftl v i p kd s k = 0) (d : tkn (v 7 0) kd k s (v 10 0 4) = v 3 i (p + k)) : ftl v i p kd s (k + 1) = 1 := (if_neg h).trans (if_pos d)
theorem ftl_n {v : Mm} {i p : Nat} {kd : Int32} {s k : Nat} (h : ¬ ftl v i p kd s k = 0) (d : ¬ tkn (v 7 0) kd k s (v 10 0 4) = v 3 i (p + k)) : ftl v i p kd s (k + 1) = 0 := (if_neg h).trans (if_neg d)
theorem ftl_01 (v : Mm) (i p : Nat) (kd : Int32) (s : Nat) : ∀ k, ftl v i p kd s k = 0 ∨ ftl v i p kd s k = 1 := by
  intro k
  induction k with
  | zero => exact Or.inr rfl
  | succ k ih =>
    rcases ih with q | q
    · exact Or.inl (ftl_z q (k + 1) (by omega))
    · have nz1 : ¬ ftl v i p kd s k = 0 := by rw [q]; decide
      by_cases d : tkn (v 7 0) kd k s (v 10 0 4) = v 3 i (p + k)
      · exact Or.inr (ftl_p nz1 d)
      · exact Or.inl (ftl_n nz1 d)
theorem x_told {v : Mm} (hw : 0 < (v 6 0 6).toInt ∧ (v 6 0 6).toInt ≤ 6) (i p : Nat) (kd s a4 : Int32) (hk : 1 ≤ kd.toInt ∧ kd.toInt ≤ 5) (hs : 0 ≤ s.toInt ∧ s.toInt ≤ 6) (ha : a4.toInt = (p : Int)) (hp : a4.toInt + (v 6 0 6).toInt ≤ 40) : pk (g_X7_fitsTold v kd s i a4) (fun r => r = ftl v i p kd (Int32.toNatClampNeg s) (Int32.toNatClampNeg (v 6 0 6))) := by
  have e1 : (1 : Int32).toInt = 1 := by decide
  have cw := tcn (v 6 0 6)
  have loop : ∀ (n k : Nat) (x : Int32), x.toInt = (k : Int) → k ≤ Int32.toNatClampNeg (v 6 0 6) → ftl v i p kd (Int32.toNatClampNeg s) k = 1 → pk (g_X7_fitsTold_L3 v i kd s a4 n x) (fun r => r = ftl v i p kd (Int32.toNatClampNeg s) (Int32.toNatClampNeg (v 6 0 6))) := by
    intro n
    induction n with
    | zero => intro k x _ _ _ b e; cases e
    | succ n ih =>
      intro k x hx hkl hf
      have nz1 : ¬ ftl v i p kd (Int32.toNatClampNeg s) k = 0 := by rw [hf]; decide
      show pk (b_X7_fitsTold_L3 (g_X7_fitsTold_L3 v i kd s a4 n) v i kd s a4 x) _
      unfold b_X7_fitsTold_L3
      refine pk_ite _ (fun c => ?_) (fun c => ?_)
      · have := i_le c
        obtain rfl : k = Int32.toNatClampNeg (v 6 0 6) := by omega
        exact pk_some hf.symm
      · have c' := i_nle c
        have ex := sp_addx x 1 (by omega)
        have ey := sp_addx a4 x (by omega)
        have ei : Int32.toNatClampNeg (a4 + x) = p + k := by rw [tcn]; omega
        have ek : Int32.toNatClampNeg x = k := by rw [tcn]; omega
        refine pk_bind (p_would v kd x s (v 10 0 4) (by omega) hs hk) (fun r er => ?_)
        rw [ek] at er
        rw [q_bit (by rw [er]; exact tkn_01 _ _ _ _ _), Option.bind_some, ei, er]
        refine pk_grd _ (fun _ => pk_ite _ (fun d => ?_) (fun d => ?_))
        · exact ih (k + 1) (x + 1) (by omega) (by omega) (ftl_p nz1 d)
        · exact pk_some (ftl_z (ftl_n nz1 d) _ (by omega)).symm
  exact loop 2000 0 0 (by decide) (Nat.zero_le _) rfl
theorem m_told {vx vm : Mm} (hS : RSt vx 0 vm 36 0) (en : vx 10 0 4 = vm 36 0 5) (hR : RR vx vm) (hw : 0 < (vx 6 0 6).toInt ∧ (vx 6 0 6).toInt ≤ 6) (p : Nat) (a2 a3 kd s : Int32) (h1 : 0 ≤ a2.toInt) (h1' : a2.toInt ≤ 7) (hs : 0 ≤ s.toInt ∧ s.toInt < (vx 6 0 6).toInt) (ha : a3.toInt = (p : Int)) (hp : a3.toInt + (vx 6 0 6).toInt ≤ 40) : pk (g_X8_takesSo vm kd s (((40 : Int32) * a2) + a3)) (fun r => r = ftl vx (Int32.toNatClampNeg a2) p kd (Int32.toNatClampNeg s) (Int32.toNatClampNeg (vx 6 0 6))) := by
  have e1 : (1 : Int32).toInt = 1 := by decide
  have cw := tcn (vx 6 0 6)
  have cs := tcn s
  have ew : vx 6 0 6 = vm 36 0 3 := hS.2.2.1
  have hr8 : Int32.toNatClampNeg a2 < 8 := clamp_lt h1 (by omega)
  have loop : ∀ (n k : Nat) (x : Int32), x.toInt = (k : Int) → k ≤ Int32.toNatClampNeg (vx 6 0 6) → pk (g_X8_takesSo_L6 vm kd s (((40 : Int32) * a2) + a3) n (ftl vx (Int32.toNatClampNeg a2) p kd (Int32.toNatClampNeg s) k) x) (fun r => r = ftl vx (Int32.toNatClampNeg a2) p kd (Int32.toNatClampNeg s) (Int32.toNatClampNeg (vx 6 0 6))) := by
    intro n
    induction n with
    | zero => intro k x _ _ b e; cases e
    | succ n ih =>
      intro k x hx hkl
      show pk (b_X8_takesSo_L6 (g_X8_takesSo_L6 vm kd s (((40 : Int32) * a2) + a3) n) vm kd s (((40 : Int32) * a2) + a3) (ftl vx (Int32.toNatClampNeg a2) p kd (Int32.toNatClampNeg s) k) x) _
      unfold b_X8_takesSo_L6
      rw [tc_3, tc_5, ← ew, ← en]
      refine pk_ite _ (fun c => ?_) (fun c => ?_)
      · have := i_le c
        obtain rfl : k = Int32.toNatClampNeg (vx 6 0 6) := by omega
        exact pk_some rfl
      · have c' := i_nle c
        have ex := sp_addx x 1 (by omega)
        have ek : Int32.toNatClampNeg x = k := by rw [tcn]; omega
        have g := ih (k + 1) (x + 1) (by omega) (by omega)
        refine pk_ite _ (fun cz => ?_) (fun cz => ?_)
        · rw [ftl_z cz (k + 1) (by omega)] at g
          exact g
        · have ei : Int32.toNatClampNeg ((((40 : Int32) * a2) + a3) + x) = 40 * Int32.toNatClampNeg a2 + (p + k) := by
            rw [ix40b h1 h1' (by omega) (by omega) (by omega), tcn a3, ek, ha]; rfl
          have h33 : vm 33 0 (40 * Int32.toNatClampNeg a2 + (p + k)) = vx 3 (Int32.toNatClampNeg a2) (p + k) := (hR.2.2 _ (p + k) hr8 (by omega)).symm
          refine pk_bind (p_takesBy vm kd x s (vx 10 0 4) (by omega) (by omega)) (fun r er => ?_)
          rw [ek, tkn_congr (fun j hj => ⟨((hS.let3 hw.2 (a := k) (b := Int32.toNatClampNeg s) (by omega) (by omega) j hj).1).symm, ((hS.let3 hw.2 (a := k) (b := Int32.toNatClampNeg s) (by omega) (by omega) j hj).2).symm⟩)] at er
          have h01 : r = 0 ∨ r = 1 := by rw [er]; exact tkn_01 _ _ _ _ _
          rw [ei, h33]
          refine pk_ite _ (fun cr => ?_) (fun cr => ?_)
          · refine pk_grd _ (fun _ => pk_ite _ (fun d => ?_) (fun d => ?_))
            · rw [ftl_p cz (by rw [← er, cr]; exact d)] at g
              exact g
            · rw [ftl_n cz (by rw [← er, cr]; exact d)] at g
              exact g
          · have cr1 := h01.resolve_left cr
            refine pk_grd _ (fun _ => pk_ite _ (fun d => ?_) (fun d => ?_))
            · rw [ftl_p cz (by rw [← er, cr1]; exact d)] at g
              exact g
            · rw [ftl_n cz (by rw [← er, cr1]; exact d)] at g
              exact g
  exact loop 2000 0 0 (by decide) (Nat.zero_le _)
def KF (v : Mm) (i p : Nat) (s : Nat) (k : Nat) : Int32 := if k = 0 then 0 else ftl v i p (nI k) s (Int32.toNatClampNeg (v 6 0 6))
def SF (v : Mm) (i p : Nat) (kd : Int32) (k : Nat) : Int32 := ftl v i p kd k (Int32.toNatClampNeg (v 6 0 6))
theorem KF_1 (v : Mm) (i p s : Nat) : (0 : Int32) = orb (KF v i p s) 1 := by
  show (0 : Int32) = 0 ||| (KF v i p s 0 <<< (nI 0 &&& 31))
  rw [show KF v i p s 0 = 0 from if_pos rfl, sh0, or0]
theorem x_kinds {v : Mm} (hR : RG5 v) (i p : Nat) (a2 : Int32) (ha : a2.toInt = (p : Int)) (hp : a2.toInt + (v 6 0 6).toInt ≤ 40) : pk (g_X7_kindsThatFit v i a2) (fun r => r = orb (KF v i p (Int32.toNatClampNeg (SEC v 0))) 6) := by
  have e1 : (1 : Int32).toInt = 1 := by decide
  have e0 : (0 : Int32).toInt = 0 := by decide
  have e5 : (5 : Int32).toInt = 5 := by decide
  have hs := SEC_rg hR (d := 0) (by omega)
  have h6 := hR.1
  have loop : ∀ (n k : Nat) (x4 x : Int32), x.toInt = (k : Int) → 1 ≤ k → k ≤ 6 → x4 = orb (KF v i p (Int32.toNatClampNeg (SEC v 0))) k → pk (g_X7_kindsThatFit_L15 v i a2 n (SEC v 0) x4 x) (fun r => r = orb (KF v i p (Int32.toNatClampNeg (SEC v 0))) 6) := by
    intro n
    induction n with
    | zero => intro k x4 x _ _ _ _ b e; cases e
    | succ n ih =>
      intro k x4 x hx h1 hkl h4
      have hx' := nI_ofk hx
      show pk (b_X7_kindsThatFit_L15 (g_X7_kindsThatFit_L15 v i a2 n) v i a2 (SEC v 0) x4 x) _
      unfold b_X7_kindsThatFit_L15
      refine pk_ite _ (fun c => ?_) (fun c => ?_)
      · have := i_lt c
        obtain rfl : k = 6 := by omega
        exact pk_some h4
      · have c' := i_nlt c
        have ex := sp_addx x 1 (by omega)
        refine pk_bind (x_told hR.1 i p x (SEC v 0) a2 (by omega) (by omega) ha hp) (fun r er => ?_)
        rw [q_bit (by rw [er]; exact ftl_01 _ _ _ _ _ _), Option.bind_some]
        refine ih (k + 1) _ (x + 1) (by omega) (by omega) (by omega) ?_
        show _ = orb _ k ||| (KF v i p (Int32.toNatClampNeg (SEC v 0)) k <<< (nI k &&& 31))
        rw [← h4, show KF v i p (Int32.toNatClampNeg (SEC v 0)) k = r by rw [er, hx']; exact if_neg (by omega), hx']
  unfold g_X7_kindsThatFit
  rw [q_secretIn v 0 h6.1, Option.bind_some]
  exact loop 2000 1 0 1 (by decide) (by omega) (by omega) (KF_1 _ _ _ _)
theorem x_secrets {v : Mm} (hw : 0 < (v 6 0 6).toInt ∧ (v 6 0 6).toInt ≤ 6) (i p : Nat) (kd a3 : Int32) (hk : 1 ≤ kd.toInt ∧ kd.toInt ≤ 5) (ha : a3.toInt = (p : Int)) (hp : a3.toInt + (v 6 0 6).toInt ≤ 40) : pk (g_X7_secretsThatFit v kd i a3) (fun r => r = orb (SF v i p kd) (Int32.toNatClampNeg (v 6 0 6))) := by
  have e1 : (1 : Int32).toInt = 1 := by decide
  have cw := tcn (v 6 0 6)
  have loop : ∀ (n k : Nat) (x4 x : Int32), x.toInt = (k : Int) → k ≤ Int32.toNatClampNeg (v 6 0 6) → x4 = orb (SF v i p kd) k → pk (g_X7_secretsThatFit_L6 v i kd a3 n x4 x) (fun r => r = orb (SF v i p kd) (Int32.toNatClampNeg (v 6 0 6))) := by
    intro n
    induction n with
    | zero => intro k x4 x _ _ _ b e; cases e
    | succ n ih =>
      intro k x4 x hx hkl h4
      have hx' := nI_ofk hx
      have ek : Int32.toNatClampNeg x = k := by rw [tcn]; omega
      show pk (b_X7_secretsThatFit_L6 (g_X7_secretsThatFit_L6 v i kd a3 n) v i kd a3 x4 x) _
      unfold b_X7_secretsThatFit_L6
      refine pk_ite _ (fun c => ?_) (fun c => ?_)
      · have := i_le c
        obtain rfl : k = Int32.toNatClampNeg (v 6 0 6) := by omega
        exact pk_some h4
      · have c' := i_nle c
        have ex := sp_addx x 1 (by omega)
        refine pk_bind (x_told hw i p kd x a3 hk (by omega) ha hp) (fun r er => ?_)
        rw [ek] at er
        rw [q_bit (by rw [er]; exact ftl_01 _ _ _ _ _ _), Option.bind_some]
        refine ih (k + 1) _ (x + 1) (by omega) (by omega) ?_
        show _ = orb _ k ||| (SF v i p kd k <<< (nI k &&& 31))
        rw [← h4, show SF v i p kd k = r from er.symm, hx']
  exact loop 2000 0 0 0 (by decide) (Nat.zero_le _) rfl
theorem m_kinds {vx vm : Mm} (hG : GB vx vm) (hR : RR vx vm) (hR5 : RG5 vx) (p : Nat) (a1 a2 a3 : Int32) (h1 : 0 ≤ a2.toInt) (h1' : a2.toInt ≤ 7) (ha : a3.toInt = (p : Int)) (hp : a3.toInt + (vx 6 0 6).toInt ≤ 40) : pk (g_X8_fits_L77 a1 a2 a3 0 2000 vm (((40 : Int32) * a2) + a3) 0 1) (fun z => z.1 = orb (KF vx (Int32.toNatClampNeg a2) p (Int32.toNatClampNeg (SEC vx 0))) 6 ∧ z.2 30 0 4 = 0) := by
  have e1 : (1 : Int32).toInt = 1 := by decide
  have e0 : (0 : Int32).toInt = 0 := by decide
  have e6 : (6 : Int32).toInt = 6 := by decide
  have hS := hG.1
  have hs := SEC_rg hR5 (d := 0) (by omega)
  have ew : vx 6 0 6 = vm 36 0 3 := hS.2.2.1
  have en : vx 10 0 4 = vm 36 0 5 := hG.2.1.2.1
  have h6 := hR5.1
  have loop : ∀ (n k : Nat) (x6 x : Int32), x.toInt = (k : Int) → 1 ≤ k → k ≤ 6 → x6 = orb (KF vx (Int32.toNatClampNeg a2) p (Int32.toNatClampNeg (SEC vx 0))) k → pk (g_X8_fits_L77 a1 a2 a3 0 n vm (((40 : Int32) * a2) + a3) x6 x) (fun z => z.1 = orb (KF vx (Int32.toNatClampNeg a2) p (Int32.toNatClampNeg (SEC vx 0))) 6 ∧ z.2 30 0 4 = 0) := by
    intro n
    induction n with
    | zero => intro k x6 x _ _ _ _ b e; cases e
    | succ n ih =>
      intro k x6 x hx hk1 hkl h4
      have hx' := nI_ofk hx
      show pk (b_X8_fits_L77 (g_X8_fits_L77 a1 a2 a3 0 n) a1 a2 a3 0 vm (((40 : Int32) * a2) + a3) x6 x) _
      unfold b_X8_fits_L77
      refine pk_ite _ (fun c => ?_) (fun c => ?_)
      · have := i_le c
        obtain rfl : k = 6 := by omega
        show pk (b_X8_fits_L135 (g_X8_fits_L135 a1 a2 a3 0 1999) a1 a2 a3 0 vm (((40 : Int32) * a2) + a3) x6 0) _
        unfold b_X8_fits_L135
        have last : pk (kb2 (g_X8_well vm x6) (fun r24 v25 => some (r24, v25))) (fun z => z.1 = orb (KF vx (Int32.toNatClampNeg a2) p (Int32.toNatClampNeg (SEC vx 0))) 6 ∧ z.2 30 0 4 = 0) := by
          show pk (some (x6, up3 vm 30 0 4 0)) _
          exact pk_some ⟨h4, (up3_s (v := vm) (t := 30) (i := 0) (j := 4) (x := 0))⟩
        refine pk_ite _ (fun _ => last) (fun _ => ?_)
        rw [if_neg (show ¬ (0 : Int32) = 1 by decide)]
        exact last
      · have c' := i_nle c
        have ex := sp_addx x 1 (by omega)
        rw [if_pos (show (0 : Int32) = 0 from rfl), tc_5]
        refine pk_bind (q_secretOf vm _) (fun r24 er24 => ?_)
        have es : r24 = SEC vx 0 := by rw [er24, hG.scr, ← en]; unfold SEC; rw [Int32.add_zero]
        rw [es]
        refine pk_bind (m_told hS en hR hR5.1 p a2 a3 x (SEC vx 0) h1 h1' hs ha hp) (fun r er => ?_)
        have ef : KF vx (Int32.toNatClampNeg a2) p (Int32.toNatClampNeg (SEC vx 0)) k = r := by rw [er, hx']; exact if_neg (by omega)
        have h01 : r = 0 ∨ r = 1 := by rw [er]; exact ftl_01 _ _ _ _ _ _
        refine pk_ite _ (fun cr => ?_) (fun cr => ?_)
        · refine ih (k + 1) _ (x + 1) (by omega) (by omega) (by omega) ?_
          show _ = orb _ k ||| (KF vx (Int32.toNatClampNeg a2) p (Int32.toNatClampNeg (SEC vx 0)) k <<< (nI k &&& 31))
          rw [ef, cr, sh0, ← h4]
        · rw [Option.bind_some]
          refine ih (k + 1) _ (x + 1) (by omega) (by omega) (by omega) ?_
          show _ = orb _ k ||| (KF vx (Int32.toNatClampNeg a2) p (Int32.toNatClampNeg (SEC vx 0)) k <<< (nI k &&& 31))
          rw [ef, h01.resolve_left cr, ← h4, hx']
  exact loop 2000 1 0 1 (by decide) (by omega) (by omega) (KF_1 _ _ _ _)
theorem m_secrets {vx vm : Mm} (hG : GB vx vm) (hR : RR vx vm) (hR5 : RG5 vx) (p : Nat) (a1 a2 a3 : Int32) (hg : 0 ≤ a1.toInt ∧ a1.toInt < (vx 6 0 7).toInt) (h1 : 0 ≤ a2.toInt) (h1' : a2.toInt ≤ 7) (ha : a3.toInt = (p : Int)) (hp : a3.toInt + (vx 6 0 6).toInt ≤ 40) : pk (g_X8_fits_L77 a1 a2 a3 1 2000 vm (((40 : Int32) * a2) + a3) 0 1) (fun z => z.1 = orb (SF vx (Int32.toNatClampNeg a2) p (vx 8 0 (Int32.toNatClampNeg a1))) (Int32.toNatClampNeg (vx 6 0 6)) ∧ z.2 30 0 4 = 0) := by
  have e1 : (1 : Int32).toInt = 1 := by decide
  have hS := hG.1
  have ew : vx 6 0 6 = vm 36 0 3 := hS.2.2.1
  have en : vx 10 0 4 = vm 36 0 5 := hG.2.1.2.1
  have h6 := hR5.1
  have h7 := hR5.2.1
  have cw := tcn (vx 6 0 6)
  have t1 := tcn a1
  obtain ⟨x1, -, -⟩ := ixm (x := a1) (k := Int32.toNatClampNeg a1) 26 26 (by decide) (by omega) (by omega) (by omega)
  have hkd : vm 36 0 (26 + 3 * Int32.toNatClampNeg a1) = vx 8 0 (Int32.toNatClampNeg a1) := ((hS.kds h7.2).2 _ (by omega)).symm
  have loop : ∀ (n k : Nat) (x6 x : Int32), x.toInt = (k : Int) → k ≤ Int32.toNatClampNeg (vx 6 0 6) → x6 = orb (SF vx (Int32.toNatClampNeg a2) p (vx 8 0 (Int32.toNatClampNeg a1))) k → pk (g_X8_fits_L135 a1 a2 a3 1 n vm (((40 : Int32) * a2) + a3) x6 x) (fun z => z.1 = orb (SF vx (Int32.toNatClampNeg a2) p (vx 8 0 (Int32.toNatClampNeg a1))) (Int32.toNatClampNeg (vx 6 0 6)) ∧ z.2 30 0 4 = 0) := by
    intro n
    induction n with
    | zero => intro k x6 x _ _ _ b e; cases e
    | succ n ih =>
      intro k x6 x hx hkl h4
      have hx' := nI_ofk hx
      have ek : Int32.toNatClampNeg x = k := by rw [tcn]; omega
      show pk (b_X8_fits_L135 (g_X8_fits_L135 a1 a2 a3 1 n) a1 a2 a3 1 vm (((40 : Int32) * a2) + a3) x6 x) _
      unfold b_X8_fits_L135
      rw [tc_3, ← ew]
      refine pk_ite _ (fun c => ?_) (fun c => ?_)
      · have := i_le c
        obtain rfl : k = Int32.toNatClampNeg (vx 6 0 6) := by omega
        show pk (some (x6, up3 vm 30 0 4 0)) _
        exact pk_some ⟨h4, (up3_s (v := vm) (t := 30) (i := 0) (j := 4) (x := 0))⟩
      · have c' := i_nle c
        have ex := sp_addx x 1 (by omega)
        rw [if_pos (show (1 : Int32) = 1 from rfl)]
        unfold g_X8_kindIn
        rw [x1]
        by_cases q : (26 : Int32) + ((3 : Int32) * a1) < 0 ∨ 65 ≤ 26 + 3 * Int32.toNatClampNeg a1
        · rw [if_pos q]; intro b e; cases e
        · rw [if_neg q, Option.bind_some, hkd]
          refine pk_bind (m_told hS en hR hR5.1 p a2 a3 (vx 8 0 (Int32.toNatClampNeg a1)) x h1 h1' (by omega) ha hp) (fun r er => ?_)
          rw [ek] at er
          have ef : SF vx (Int32.toNatClampNeg a2) p (vx 8 0 (Int32.toNatClampNeg a1)) k = r := er.symm
          have h01 : r = 0 ∨ r = 1 := by rw [er]; exact ftl_01 _ _ _ _ _ _
          refine pk_ite _ (fun cr => ?_) (fun cr => ?_)
          · refine ih (k + 1) _ (x + 1) (by omega) (by omega) ?_
            show _ = orb _ k ||| (SF vx (Int32.toNatClampNeg a2) p (vx 8 0 (Int32.toNatClampNeg a1)) k <<< (nI k &&& 31))
            rw [ef, cr, sh0, ← h4]
          · rw [Option.bind_some]
            refine ih (k + 1) _ (x + 1) (by omega) (by omega) ?_
            show _ = orb _ k ||| (SF vx (Int32.toNatClampNeg a2) p (vx 8 0 (Int32.toNatClampNeg a1)) k <<< (nI k &&& 31))
            rw [ef, h01.resolve_left cr, ← h4, hx']
  show pk (b_X8_fits_L77 (g_X8_fits_L77 a1 a2 a3 1 1999) a1 a2 a3 1 vm (((40 : Int32) * a2) + a3) 0 1) _
  unfold b_X8_fits_L77
  rw [if_neg (show ¬ (6 : Int32) ≤ 1 by decide), if_neg (show ¬ (1 : Int32) = 0 by decide)]
  exact loop 2000 0 0 0 (by decide) (Nat.zero_le _) rfl
set_option maxHeartbeats 4000000 in
theorem r_fits {vx vm : Mm} (hX : PW rgX vx) (hM : IM vm) (h : RR vx vm) (hG : GB vx vm) (a1 a2 a3 a4 : Int32) : rel (g_X7_fits vx a1 a2 a3 a4) (g_X8_fits vm a1 a2 a3 a4) (relS vx vm) := by
  have e0 : (0 : Int32).toInt = 0 := by decide
  have e1 : (1 : Int32).toInt = 1 := by decide
  have hw : (0 : Int) ≤ (vx 6 0 6).toInt ∧ (vx 6 0 6).toInt ≤ (6 : Int) := hX 6 0 6
  have hg : (0 : Int) ≤ (vx 6 0 7).toInt ∧ (vx 6 0 7).toInt ≤ (4 : Int) := hX 6 0 7
  have hS := hG.1
  have ew : vx 6 0 6 = vm 36 0 3 := hS.2.2.1
  have eg : vx 6 0 7 = vm 36 0 4 := hS.2.2.2.1
  unfold g_X7_fits g_X8_fits
  rw [bx_guard, bm_guard vm (by rw [← eg]; exact hg.1), q_X7_isRow, q_X8_isRow, Option.bind_some, Option.bind_some, b01_z, b01_z, rng3, b_in, tc_3, ← eg, ← ew]
  refine rel_ite Iff.rfl (fun c0 => ?_) (fun _ => rel_some relS_same)
  have hw0 : 0 < (vx 6 0 6).toInt := by
    rcases hM.2.1 with ⟨-, q⟩ | ⟨q, -⟩
    · have q : (vm 36 0 4).toInt = 0 := q
      rw [← eg] at q; omega
    · have q : 0 < (vm 36 0 3).toInt := q
      rw [ew]; exact q
  have hR5 := RG5.of hX hM hS hw0
  refine rel_ite Iff.rfl (fun c1 => ?_) (fun _ => rel_some relS_same)
  refine rel_ite Iff.rfl (fun c3 => ?_) (fun _ => rel_some relS_same)
  refine rel_grdL _ (fun _ => ?_)
  have hr : Int32.toNatClampNeg a2 < 8 := clamp_lt c1.1 (by omega)
  have hs := sizeX hX (Int32.toNatClampNeg a2)
  have hz := h.2.1 _ hr
  rw [q_X5_findingOf vx _ a3 (vx 6 0 6) hs, q_X8_isMissing vm a2 c1.1 c1.2, Option.bind_some, Option.bind_some, b01_z]
  by_cases m : vx 2 (Int32.toNatClampNeg a2) 1 = -1
  · have ef : fnd vx (Int32.toNatClampNeg a2) a3 (vx 6 0 6) = 1 := if_pos m
    rw [ef, if_neg (show ¬ (1 : Int32) = 0 by decide), if_pos ((h.lane hr).mp m)]
    show rel (some (-1000010 - 1, up3 vx 0 0 8 1)) (some (-1000010 - 1, up3 vm 30 0 4 1)) _
    exact rel_some relS_st
  · rw [if_neg (fun q => m ((h.lane hr).mpr q)), q_X8_isPart vm a2 a3 (vx 6 0 6) c1.1 c1.2 (sizeM hM _), Option.bind_some, b01_z, ← hz]
    by_cases d : 0 ≤ a3.toInt ∧ 0 ≤ (vx 6 0 6).toInt ∧ a3.toInt + (vx 6 0 6).toInt ≤ (vx 2 (Int32.toNatClampNeg a2) 2).toInt
    · have ef : fnd vx (Int32.toNatClampNeg a2) a3 (vx 6 0 6) = 0 := (if_neg m).trans (if_pos d)
      rw [ef, if_pos (show (0 : Int32) = 0 from rfl), if_pos d]
      have ha3 : a3.toInt = ((Int32.toNatClampNeg a3 : Nat) : Int) := by rw [tcn]; omega
      have hp : a3.toInt + (vx 6 0 6).toInt ≤ 40 := by omega
      refine rel_iteL _ (fun q => ?_) (fun q => ?_)
      · subst q
        refine rel_grdL _ (fun _ => ?_)
        refine rel_bindL (x_kinds hR5 (Int32.toNatClampNeg a2) (Int32.toNatClampNeg a3) a3 ha3 hp) (fun r er => ?_)
        show rel (some (r, up3 vx 0 0 8 0)) _ _
        refine rel_someL ((m_kinds hG h hR5 (Int32.toNatClampNeg a3) a1 a2 a3 c1.1 c1.2 ha3 hp).mono (fun z k => ⟨?_, fun _ => ?_⟩))
        · show r = z.1
          rw [er, k.1]
        · show up3 vx 0 0 8 0 0 0 8 = z.2 30 0 4
          rw [up3_s, k.2]
      · have q1 : a4 = 1 := Int32.toInt_inj.mp (by have := i_ne q; omega)
        subst q1
        refine rel_grdL _ (fun _ => rel_grdL _ (fun _ => ?_))
        have hkd := (hS.kds hR5.2.1.2).1 (Int32.toNatClampNeg a1) (by rw [tcn]; omega)
        refine rel_bindL (x_secrets hR5.1 (Int32.toNatClampNeg a2) (Int32.toNatClampNeg a3) (vx 8 0 (Int32.toNatClampNeg a1)) a3 hkd ha3 hp) (fun r er => ?_)
        show rel (some (r, up3 vx 0 0 8 0)) _ _
        refine rel_someL ((m_secrets hG h hR5 (Int32.toNatClampNeg a3) a1 a2 a3 c0 c1.1 c1.2 ha3 hp).mono (fun z k => ⟨?_, fun _ => ?_⟩))
        · show r = z.1
          rw [er, k.1]
        · show up3 vx 0 0 8 0 0 0 8 = z.2 30 0 4
          rw [up3_s, k.2]
    · have ef : fnd vx (Int32.toNatClampNeg a2) a3 (vx 6 0 6) = 2 := (if_neg m).trans (if_neg d)
      rw [ef, if_neg (show ¬ (2 : Int32) = 0 by decide), if_neg d]
      show rel (some (-1000010 - 2, up3 vx 0 0 8 2)) (some (-1000010 - 2, up3 vm 30 0 4 2)) _
      exact rel_some relS_st
