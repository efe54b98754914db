/-! rules: which rules tell a part of a row -/
def scq (v : Mm) (a4 x t : Int32) : Int32 := scr (if a4 = 0 then x else v 10 0 5) (if a4 = 1 then x else v 6 0 4) (if a4 = 2 then x else v 6 0 5) (v 6 0 6) t
def tel (v : Mm) (i p : Nat) (a4 x : Int32) : Nat → Int32
  | 0 => 1
  | k + 1 => if tel v i p a4 x k = 0 then 0 else if scq v a4 x (v 10 0 4 + nI k) = v 3 i (p + k) then 1 else 0
theorem tel_01 (v : Mm) (i p : Nat) (a4 x : Int32) : ∀ k, tel v i p a4 x k = 0 ∨ tel v i p a4 x k = 1 := by
  intro k
  cases k with
  | zero => exact Or.inr rfl
  | succ k =>
    show (if tel v i p a4 x k = 0 then (0 : Int32) else if scq v a4 x (v 10 0 4 + nI k) = v 3 i (p + k) then 1 else 0) = 0 ∨ (if tel v i p a4 x k = 0 then (0 : Int32) else if scq v a4 x (v 10 0 4 + nI k) = v 3 i (p + k) then 1 else 0) = 1
    by_cases c : tel v i p a4 x k = 0
    · rw [if_pos c]; exact Or.inl rfl
    · rw [if_neg c]
      by_cases d : scq v a4 x (v 10 0 4 + nI k) = v 3 i (p + k)
      · rw [if_pos d]; exact Or.inr rfl
      · rw [if_neg d]; exact Or.inl rfl
theorem tel_z {v : Mm} {i p : Nat} {a4 x : Int32} {k : Nat} (h : tel v i p a4 x k = 0) : ∀ m, k ≤ m → tel v i p a4 x m = 0 := by
  intro m
  induction m with
  | zero => intro q; obtain rfl : k = 0 := by omega
            exact h
  | succ m ih =>
    intro q
    by_cases e : k = m + 1
    · rw [← e]; exact h
    · exact if_pos (ih (by omega))
theorem tel_p {v : Mm} {i p : Nat} {a4 x : Int32} {k : Nat} (h : ¬ tel v i p a4 x k = 0) (d : scq v a4 x (v 10 0 4 + nI k) = v 3 i (p + k)) : tel v i p a4 x (k + 1) = 1 := (if_neg h).trans (if_pos d)
theorem tel_n {v : Mm} {i p : Nat} {a4 x : Int32} {k : Nat} (h : ¬ tel v i p a4 x k = 0) (d : ¬ scq v a4 x (v 10 0 4 + nI k) = v 3 i (p + k)) : tel v i p a4 x (k + 1) = 0 := (if_neg h).trans (if_neg d)
theorem x_tell {v : Mm} (hw : 0 < (v 6 0 6).toInt) (i p : Nat) (a2 a3 a4 : Int32) (ha2 : a2.toInt = (p : Int)) (h3 : 0 ≤ a3.toInt) (hp : a2.toInt + a3.toInt ≤ 40) (rec32 : Int32 → Int32 → Int32 → Option Int32) (x5 x6 x7 f s q x : Int32) (hs : ∀ t, scr f s q (v 6 0 6) t = scq v a4 x t) {P : Int32 → Prop} (hk : pk (rec32 x5 (x6 ||| (tel v i p a4 x (Int32.toNatClampNeg a3) <<< (x7 &&& 31))) (x7 + 1)) P) : ∀ (n k : Nat) (x12 : Int32), x12.toInt = (k : Int) → k ≤ Int32.toNatClampNeg a3 → pk (g_X7_rulesThatTell_L107 rec32 v i a2 a3 a4 n x5 x6 x7 f s q (tel v i p a4 x k) x12) P := by
  have e1 : (1 : Int32).toInt = 1 := by decide
  have c3 := tcn a3
  intro n
  induction n with
  | zero => intro k x12 _ _ b e; cases e
  | succ n ih =>
    intro k x12 hx hkl
    show pk (b_X7_rulesThatTell_L107 rec32 (g_X7_rulesThatTell_L107 rec32 v i a2 a3 a4 n) v i a2 a3 a4 x5 x6 x7 f s q (tel v i p a4 x k) x12) P
    unfold b_X7_rulesThatTell_L107
    rw [q_bit (tel_01 v i p a4 x k), Option.bind_some]
    refine pk_ite _ (fun c => ?_) (fun c => ?_)
    · have := i_le c
      obtain rfl : k = Int32.toNatClampNeg a3 := by omega
      exact hk
    · have c' := i_nle c
      refine pk_ite _ (fun cz => ?_) (fun cz => ?_)
      · rw [cz, ← tel_z cz (Int32.toNatClampNeg a3) hkl]
        exact hk
      · have ex := sp_addx x12 1 (by omega)
        have ey := sp_addx a2 x12 (by omega)
        have ei : Int32.toNatClampNeg (a2 + x12) = p + k := by rw [tcn]; omega
        rw [q_secretBy v f s q _ hw, Option.bind_some, hs, ei]
        refine pk_grd _ (fun _ => ?_)
        have hx' := nI_ofk hx
        refine pk_ite _ (fun d => ?_) (fun d => ?_)
        · have g := ih (k + 1) (x12 + 1) (by omega) (by omega)
          rw [tel_p cz (by rw [← hx']; exact d)] at g
          exact g
        · have g := ih (k + 1) (x12 + 1) (by omega) (by omega)
          rw [tel_n cz (by rw [← hx']; exact d)] at g
          exact g
def telF (v : Mm) (i p n : Nat) (a4 : Int32) (k : Nat) : Int32 := tel v i p a4 (nI k) n
theorem x_rulesL {v : Mm} (hw : 0 < (v 6 0 6).toInt) (i p : Nat) (a2 a3 a4 : Int32) (h4 : a4 = 0 ∨ a4 = 1 ∨ a4 = 2) (ha2 : a2.toInt = (p : Int)) (h3 : 0 ≤ a3.toInt) (hp : a2.toInt + a3.toInt ≤ 40) (hi : Nat) (hh : hi ≤ 9) (x5 : Int32) (h5 : x5.toInt = (hi : Int)) : ∀ (n k : Nat) (x6 x7 : Int32), x7.toInt = (k : Int) → k ≤ hi + 1 → x6 = orb (telF v i p (Int32.toNatClampNeg a3) a4) k → pk (g_X7_rulesThatTell_L32 v i a2 a3 a4 n x5 x6 x7) (fun r => r = orb (telF v i p (Int32.toNatClampNeg a3) a4) (hi + 1)) := by
  have e1 : (1 : Int32).toInt = 1 := by decide
  intro n
  induction n with
  | zero => intro k x6 x7 _ _ _ b e; cases e
  | succ n ih =>
    intro k x6 x7 hx hkl h6
    show pk (b_X7_rulesThatTell_L32 (g_X7_rulesThatTell_L32 v i a2 a3 a4 n) v i a2 a3 a4 x5 x6 x7) _
    unfold b_X7_rulesThatTell_L32
    refine pk_ite _ (fun c => ?_) (fun c => ?_)
    · have := i_lt c
      obtain rfl : k = hi + 1 := by omega
      exact pk_some h6
    · have c' := i_nlt c
      have ex := sp_addx x7 1 (by omega)
      have hx' := nI_ofk hx
      have next : pk (g_X7_rulesThatTell_L32 v i a2 a3 a4 n x5 (x6 ||| (tel v i p a4 (nI k) (Int32.toNatClampNeg a3) <<< (x7 &&& 31))) (x7 + 1)) (fun r => r = orb (telF v i p (Int32.toNatClampNeg a3) a4) (hi + 1)) := by
        refine ih (k + 1) _ (x7 + 1) (by omega) (by omega) ?_
        show _ = orb _ k ||| (telF v i p (Int32.toNatClampNeg a3) a4 k <<< (nI k &&& 31))
        rw [← h6, ← hx', hx']; rfl
      rcases h4 with rfl | rfl | rfl
      · rw [if_pos (show (0 : Int32) = 0 from rfl), if_neg (show ¬ (0 : Int32) = 1 by decide), if_neg (show ¬ (0 : Int32) = 2 by decide)]
        exact x_tell hw i p a2 a3 0 ha2 h3 hp _ x5 x6 x7 _ _ _ (nI k) (fun t => by unfold scq; rw [if_pos (show (0 : Int32) = 0 from rfl), if_neg (show ¬ (0 : Int32) = 1 by decide), if_neg (show ¬ (0 : Int32) = 2 by decide), hx']) next 2000 0 0 (by decide) (Nat.zero_le _)
      · rw [if_neg (show ¬ (1 : Int32) = 0 by decide), if_pos (show (1 : Int32) = 1 from rfl), if_neg (show ¬ (1 : Int32) = 2 by decide)]
        exact x_tell hw i p a2 a3 1 ha2 h3 hp _ x5 x6 x7 _ _ _ (nI k) (fun t => by unfold scq; rw [if_neg (show ¬ (1 : Int32) = 0 by decide), if_pos (show (1 : Int32) = 1 from rfl), if_neg (show ¬ (1 : Int32) = 2 by decide), hx']) next 2000 0 0 (by decide) (Nat.zero_le _)
      · rw [if_neg (show ¬ (2 : Int32) = 0 by decide), if_neg (show ¬ (2 : Int32) = 1 by decide), if_pos (show (2 : Int32) = 2 from rfl)]
        exact x_tell hw i p a2 a3 2 ha2 h3 hp _ x5 x6 x7 _ _ _ (nI k) (fun t => by unfold scq; rw [if_neg (show ¬ (2 : Int32) = 0 by decide), if_neg (show ¬ (2 : Int32) = 1 by decide), if_pos (show (2 : Int32) = 2 from rfl), hx']) next 2000 0 0 (by decide) (Nat.zero_le _)
def rhi (a4 : Int32) : Nat := if a4 = 2 then 6 else 9
theorem x_rules {v : Mm} (hw : 0 < (v 6 0 6).toInt) (i p : Nat) (a2 a3 a4 : Int32) (h4 : a4 = 0 ∨ a4 = 1 ∨ a4 = 2) (ha2 : a2.toInt = (p : Int)) (h3 : 0 ≤ a3.toInt) (hp : a2.toInt + a3.toInt ≤ 40) : pk (g_X7_rulesThatTell v i a2 a3 a4) (fun r => r = orb (telF v i p (Int32.toNatClampNeg a3) a4) (rhi a4 + 1)) := by
  unfold g_X7_rulesThatTell rhi
  by_cases c : a4 = 2
  · rw [if_pos c, if_pos c]
    exact x_rulesL hw i p a2 a3 a4 h4 ha2 h3 hp 6 (by omega) 6 (by decide) 2000 0 0 0 (by decide) (by omega) rfl
  · rw [if_neg c, if_neg c]
    refine pk_ite _ (fun _ => ?_) (fun _ => ?_)
    · exact x_rulesL hw i p a2 a3 a4 h4 ha2 h3 hp 9 (by omega) 9 (by decide) 2000 0 0 0 (by decide) (by omega) rfl
    · exact x_rulesL hw i p a2 a3 a4 h4 ha2 h3 hp 9 (by omega) 9 (by decide) 2000 0 0 0 (by decide) (by omega) rfl
theorem q_secretOf38 (v : Mm) (n : Int32) : pk (g_X8_secretOf_38 v n) (fun r => r = scr (v 38 0 0) (v 38 0 1) (v 38 0 2) (v 38 0 3) n) := by
  unfold g_X8_secretOf_38 scr
  rw [tc_0, tc_1, tc_2, tc_3]
  exact pk_ite _ (fun c => pk_some (by rw [if_pos c])) (fun c => pk_grd _ (fun _ => pk_some (by rw [if_neg c])))
theorem m_tell {vx : Mm} (p : Nat) (a1 a2 a3 a4 : Int32) (h1 : 0 ≤ a1.toInt) (h1' : a1.toInt ≤ 7) (ha2 : a2.toInt = (p : Int)) (h3 : 0 ≤ a3.toInt) (hp : a2.toInt + a3.toInt ≤ 40) (rec76 : Mm → Int32 → Int32 → Option (Int32 × Mm)) (w : Mm) (x5 x6 x : Int32) (hn : w 36 0 5 = vx 10 0 4) (hs : ∀ t, scr (w 38 0 0) (w 38 0 1) (w 38 0 2) (w 38 0 3) t = scq vx a4 x t) (h33 : ∀ k, k < 40 → w 33 0 (40 * Int32.toNatClampNeg a1 + k) = vx 3 (Int32.toNatClampNeg a1) k) {P : Int32 × Mm → Prop} (hk : pk (rec76 w (x5 ||| (tel vx (Int32.toNatClampNeg a1) p a4 x (Int32.toNatClampNeg a3) <<< (x6 &&& 31))) (x6 + 1)) P) : ∀ (n k : Nat) (x8 : Int32), x8.toInt = (k : Int) → k ≤ Int32.toNatClampNeg a3 → pk (g_X8_rules_L122 rec76 a1 a2 a3 a4 n w x5 x6 (tel vx (Int32.toNatClampNeg a1) p a4 x k) x8) P := by
  have e1 : (1 : Int32).toInt = 1 := by decide
  have c3 := tcn a3
  intro n
  induction n with
  | zero => intro k x8 _ _ b e; cases e
  | succ n ih =>
    intro k x8 hx hkl
    show pk (b_X8_rules_L122 rec76 (g_X8_rules_L122 rec76 a1 a2 a3 a4 n) a1 a2 a3 a4 w x5 x6 (tel vx (Int32.toNatClampNeg a1) p a4 x k) x8) P
    unfold b_X8_rules_L122
    refine pk_ite _ (fun c => ?_) (fun c => ?_)
    · have := i_le c
      obtain rfl : k = Int32.toNatClampNeg a3 := by omega
      refine pk_ite _ (fun cz => ?_) (fun cz => ?_)
      · rw [cz, sh0] at hk
        exact hk
      · rw [(tel_01 vx (Int32.toNatClampNeg a1) p a4 x (Int32.toNatClampNeg a3)).resolve_left cz] at hk
        exact hk
    · have c' := i_nle c
      have ex := sp_addx x8 1 (by omega)
      refine pk_ite _ (fun cz => ?_) (fun cz => ?_)
      · have g := ih (k + 1) (x8 + 1) (by omega) (by omega)
        rw [tel_z cz (k + 1) (by omega)] at g
        exact g
      · refine pk_bind (q_secretOf38 w _) (fun r er => ?_)
        refine pk_grd _ (fun _ => ?_)
        have hx' := nI_ofk hx
        have ei : Int32.toNatClampNeg ((((40 : Int32) * a1) + a2) + x8) = 40 * Int32.toNatClampNeg a1 + (p + k) := by
          rw [ix40b h1 h1' (by omega) (by omega) (by omega), tcn a2, tcn x8, ha2, hx]; rfl
        rw [ei, h33 (p + k) (by omega), er, tc_5, hn, hs]
        refine pk_ite _ (fun d => ?_) (fun d => ?_)
        · have g := ih (k + 1) (x8 + 1) (by omega) (by omega)
          rw [tel_p cz (by rw [← hx']; exact d)] at g
          exact g
        · have g := ih (k + 1) (x8 + 1) (by omega) (by omega)
          rw [tel_n cz (by rw [← hx']; exact d)] at g
          exact g
def FS38 (vm w : Mm) : Prop := ∀ t i j, t ≠ 38 → w t i j = vm t i j
theorem m_rulesL {vx vm : Mm} (hR : RR vx vm) (hG : GB vx vm) (p : Nat) (a1 a2 a3 a4 : Int32) (h1 : 0 ≤ a1.toInt) (h1' : a1.toInt ≤ 7) (h4 : a4 = 0 ∨ a4 = 1 ∨ a4 = 2) (ha2 : a2.toInt = (p : Int)) (h3 : 0 ≤ a3.toInt) (hp : a2.toInt + a3.toInt ≤ 40) : ∀ (n : Nat) (w : Mm) (k : Nat) (x5 x6 : Int32), FS38 vm w → x6.toInt = (k : Int) → k ≤ rhi a4 + 1 → x5 = orb (telF vx (Int32.toNatClampNeg a1) p (Int32.toNatClampNeg a3) a4) k → pk (g_X8_rules_L76 a1 a2 a3 a4 n w x5 x6) (fun z => z.1 = orb (telF vx (Int32.toNatClampNeg a1) p (Int32.toNatClampNeg a3) a4) (rhi a4 + 1) ∧ z.2 30 0 4 = 0) := by
  have e1 : (1 : Int32).toInt = 1 := by decide
  have e6 : (6 : Int32).toInt = 6 := by decide
  have e9 : (9 : Int32).toInt = 9 := by decide
  have hr8 : Int32.toNatClampNeg a1 < 8 := clamp_lt h1 (by omega)
  have g0 := hG.2.1.1
  have g1 := hG.1.1
  have g2 := hG.1.2.1
  have g3 := hG.1.2.2.1
  have g5 := hG.2.1.2.1
  simp only [Nat.zero_add] at g0 g1 g2 g3 g5
  have rhi_le : rhi a4 ≤ 9 := by unfold rhi; split <;> omega
  intro n
  induction n with
  | zero => intro w k x5 x6 _ _ _ _ b e; cases e
  | succ n ih =>
    intro w k x5 x6 hw hx hkl h5
    have hx' := nI_ofk hx
    have inner : k ≤ rhi a4 → pk (Option.bind (g_X8_copies_36_38 w 0 0) (fun v41 => if a4 < 0 ∨ 65 ≤ Int32.toNatClampNeg a4 then none else (Option.bind (some (up3 v41 38 0 (Int32.toNatClampNeg a4) x6)) (fun v43 => g_X8_rules_L122 (g_X8_rules_L76 a1 a2 a3 a4 n) a1 a2 a3 a4 2000 v43 x5 x6 1 0)))) (fun z => z.1 = orb (telF vx (Int32.toNatClampNeg a1) p (Int32.toNatClampNeg a3) a4) (rhi a4 + 1) ∧ z.2 30 0 4 = 0) := by
      intro hkr
      have ex := sp_addx x6 1 (by omega)
      refine pk_bind (p_cp3638 w 0 0 0 0 (by decide) (by decide) (by omega) (by omega)) (fun z hz => ?_)
      obtain ⟨z1, z2⟩ := hz
      simp only [Nat.zero_add] at z1
      have b1 : z 38 0 0 = vx 10 0 5 := (z1 0 (by omega)).trans ((hw 36 0 0 (by decide)).trans g0.symm)
      have b2 : z 38 0 1 = vx 6 0 4 := (z1 1 (by omega)).trans ((hw 36 0 1 (by decide)).trans g1.symm)
      have b3 : z 38 0 2 = vx 6 0 5 := (z1 2 (by omega)).trans ((hw 36 0 2 (by decide)).trans g2.symm)
      have b4 : z 38 0 3 = vx 6 0 6 := (z1 3 (by omega)).trans ((hw 36 0 3 (by decide)).trans g3.symm)
      have zf : ∀ t i j, t ≠ 38 → z t i j = vm t i j := fun t i j q => (z2 t i j (fun c => q c.1)).trans (hw t i j q)
      refine pk_grd _ (fun _ => pk_let (fun v43 e43 => ?_))
      have vf : FS38 vm v43 := fun t i j q => by rw [e43, up3_t q]; exact zf t i j q
      have hs : ∀ t, scr (v43 38 0 0) (v43 38 0 1) (v43 38 0 2) (v43 38 0 3) t = scq vx a4 (nI k) t := by
        intro t
        rw [e43]
        unfold scq
        rcases h4 with rfl | rfl | rfl
        · rw [tc_0, if_pos (show (0 : Int32) = 0 from rfl), if_neg (show ¬ (0 : Int32) = 1 by decide), if_neg (show ¬ (0 : Int32) = 2 by decide), up3_s, up3_j (show (1 : Nat) ≠ 0 by decide), up3_j (show (2 : Nat) ≠ 0 by decide), up3_j (show (3 : Nat) ≠ 0 by decide), b2, b3, b4, ← hx']
        · rw [tc_1, if_neg (show ¬ (1 : Int32) = 0 by decide), if_pos (show (1 : Int32) = 1 from rfl), if_neg (show ¬ (1 : Int32) = 2 by decide), up3_s, up3_j (show (0 : Nat) ≠ 1 by decide), up3_j (show (2 : Nat) ≠ 1 by decide), up3_j (show (3 : Nat) ≠ 1 by decide), b1, b3, b4, ← hx']
        · rw [tc_2, if_neg (show ¬ (2 : Int32) = 0 by decide), if_neg (show ¬ (2 : Int32) = 1 by decide), if_pos (show (2 : Int32) = 2 from rfl), up3_s, up3_j (show (0 : Nat) ≠ 2 by decide), up3_j (show (1 : Nat) ≠ 2 by decide), up3_j (show (3 : Nat) ≠ 2 by decide), b1, b2, b4, ← hx']
      refine m_tell (vx := vx) p a1 a2 a3 a4 h1 h1' ha2 h3 hp _ v43 x5 x6 (nI k) ((vf 36 0 5 (by decide)).trans g5.symm) hs (fun j hj => (vf 33 0 _ (by decide)).trans (hR.2.2 _ j hr8 hj).symm) ?_ 2000 0 0 (by decide) (Nat.zero_le _)
      refine ih v43 (k + 1) _ (x6 + 1) vf (by omega) (by omega) ?_
      show _ = orb _ k ||| (telF vx (Int32.toNatClampNeg a1) p (Int32.toNatClampNeg a3) a4 k <<< (nI k &&& 31))
      rw [← h5, hx']; rfl
    have last : k = rhi a4 + 1 → pk (kb2 (g_X8_well w x5) (fun r37 v38 => some (r37, v38))) (fun z => z.1 = orb (telF vx (Int32.toNatClampNeg a1) p (Int32.toNatClampNeg a3) a4) (rhi a4 + 1) ∧ z.2 30 0 4 = 0) := by
      intro q
      show pk (some (x5, up3 w 30 0 4 0)) _
      exact pk_some ⟨by rw [← q]; exact h5, (up3_s (v := w) (t := 30) (i := 0) (j := 4) (x := 0))⟩
    show pk (b_X8_rules_L76 (g_X8_rules_L76 a1 a2 a3 a4 n) a1 a2 a3 a4 w x5 x6) _
    unfold b_X8_rules_L76
    refine pk_ite _ (fun c => ?_) (fun c => ?_)
    · have hr : rhi a4 = 6 := if_pos c
      refine pk_ite _ (fun d => ?_) (fun d => ?_)
      · have := i_lt d
        exact last (by omega)
      · have := i_nlt d
        exact inner (by omega)
    · have hr : rhi a4 = 9 := if_neg c
      refine pk_ite _ (fun d => ?_) (fun d => ?_)
      · have := i_lt d
        exact last (by omega)
      · have := i_nlt d
        exact inner (by omega)
def relS (vx vm : Mm) : Int32 × Mm → Int32 × Mm → Prop := fun a b => a.1 = b.1 ∧ (RS vx vm → RS a.2 b.2)
theorem relS_same {vx vm : Mm} {r : Int32} : relS vx vm (r, vx) (r, vm) := ⟨rfl, fun q => q⟩
theorem relS_st {vx vm wx wm : Mm} {r s : Int32} : relS vx vm (r, up3 wx 0 0 8 s) (r, up3 wm 30 0 4 s) := ⟨rfl, fun _ => by
  show up3 wx 0 0 8 s 0 0 8 = up3 wm 30 0 4 s 30 0 4
  rw [up3_s, up3_s]⟩
set_option maxHeartbeats 4000000 in
theorem r_rules {vx vm : Mm} (hX : PW rgX vx) (hM : IM vm) (h : RR vx vm) (hG : GB vx vm) (a1 a2 a3 a4 : Int32) : rel (g_X7_rules vx a1 a2 a3 a4) (g_X8_rules vm a1 a2 a3 a4) (relS vx vm) := by
  have e0 : (0 : Int32).toInt = 0 := by decide
  have e1 : (1 : Int32).toInt = 1 := by decide
  have e2 : (2 : Int32).toInt = 2 := by decide
  have e16 : (16 : Int32).toInt = 16 := by decide
  have hw : (0 : Int) ≤ (vx 6 0 6).toInt ∧ (vx 6 0 6).toInt ≤ (6 : Int) := hX 6 0 6
  have ew : vx 6 0 6 = vm 36 0 3 := hG.1.2.2.1
  unfold g_X7_rules g_X8_rules
  rw [bx_nog, bm_isg vm (by rw [← ew]; exact hw.1), q_X7_isRow, q_X8_isRow, Option.bind_some, Option.bind_some, b01_z, b01_z, rng2, rng3, b_in, b_in, ← ew]
  refine rel_ite Iff.rfl (fun _ => rel_some relS_same) (fun c0 => ?_)
  have c0' := i_ne c0
  refine rel_ite Iff.rfl (fun c1 => ?_) (fun _ => rel_some relS_same)
  refine rel_ite Iff.rfl (fun c2 => ?_) (fun _ => rel_some relS_same)
  refine rel_ite Iff.rfl (fun c3 => ?_) (fun _ => rel_some relS_same)
  refine rel_grdL _ (fun _ => ?_)
  have hr : Int32.toNatClampNeg a1 < 8 := clamp_lt c1.1 (by omega)
  have hs := sizeX hX (Int32.toNatClampNeg a1)
  have hz := h.2.1 _ hr
  rw [q_X5_findingOf vx _ a2 a3 hs, q_X8_isMissing vm a1 c1.1 c1.2, Option.bind_some, Option.bind_some, b01_z]
  by_cases m : vx 2 (Int32.toNatClampNeg a1) 1 = -1
  · have ef : fnd vx (Int32.toNatClampNeg a1) a2 a3 = 1 := if_pos m
    rw [ef, if_neg (show ¬ (1 : Int32) = 0 by decide), if_pos ((h.lane hr).mp m)]
    show rel (some (-1000010 - 1, up3 vx 0 0 8 1)) (some (-1000010 - 1, up3 vm 30 0 4 1)) _
    exact rel_some relS_st
  · rw [if_neg (fun q => m ((h.lane hr).mpr q)), q_X8_isPart vm a1 a2 a3 c1.1 c1.2 (sizeM hM _), Option.bind_some, b01_z, ← hz]
    by_cases d : 0 ≤ a2.toInt ∧ 0 ≤ a3.toInt ∧ a2.toInt + a3.toInt ≤ (vx 2 (Int32.toNatClampNeg a1) 2).toInt
    · have ef : fnd vx (Int32.toNatClampNeg a1) a2 a3 = 0 := (if_neg m).trans (if_pos d)
      rw [ef, if_pos (show (0 : Int32) = 0 from rfl), if_pos d]
      refine rel_grdL _ (fun _ => ?_)
      have h4 : a4 = 0 ∨ a4 = 1 ∨ a4 = 2 := by
        have q : a4.toInt = 0 ∨ a4.toInt = 1 ∨ a4.toInt = 2 := by omega
        rcases q with q | q | q
        · exact Or.inl (Int32.toInt_inj.mp (by omega))
        · exact Or.inr (Or.inl (Int32.toInt_inj.mp (by omega)))
        · exact Or.inr (Or.inr (Int32.toInt_inj.mp (by omega)))
      have ha2 : a2.toInt = ((Int32.toNatClampNeg a2 : Nat) : Int) := by rw [tcn]; omega
      refine rel_bindL (x_rules (by omega) (Int32.toNatClampNeg a1) (Int32.toNatClampNeg a2) a2 a3 a4 h4 ha2 d.2.1 (by omega)) (fun r er => ?_)
      show rel (some (r, up3 vx 0 0 8 0)) _ _
      refine rel_someL ((m_rulesL h hG (Int32.toNatClampNeg a2) a1 a2 a3 a4 c1.1 c1.2 h4 ha2 d.2.1 (by omega) 2000 vm 0 0 0 (fun _ _ _ _ => rfl) (by decide) (by omega) rfl).mono (fun z q => ?_))
      refine ⟨?_, fun _ => ?_⟩
      · show r = z.1
        rw [er, q.1]
      · show up3 vx 0 0 8 0 0 0 8 = z.2 30 0 4
        rw [up3_s, q.2]
    · have ef : fnd vx (Int32.toNatClampNeg a1) a2 a3 = 2 := (if_neg m).trans (if_neg d)
      rw [ef, if_neg (show ¬ (2 : Int32) = 0 by decide), if_neg d]
      show rel (some (-1000010 - 2, up3 vx 0 0 8 2)) (some (-1000010 - 2, up3 vm 30 0 4 2)) _
      exact rel_some relS_st
