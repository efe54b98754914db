/-! WHO IS TAKEN: both sides by one function of letters, kinds, numbers -/
def l01 (x y : Int32) : Int32 := if x - x / 5 * 5 = y - y / 5 * 5 then 1 else 0
def lps (L : Nat → Int32) (a b : Nat) : Int32 := ((0 + l01 (L (3 * a)) (L (3 * b))) + l01 (L (3 * a + 1)) (L (3 * b + 1))) + l01 (L (3 * a + 2)) (L (3 * b + 2))
theorem dst_congr {L M : Nat → Int32} {a b : Nat} (h : ∀ j, j < 3 → L (3 * a + j) = M (3 * a + j) ∧ L (3 * b + j) = M (3 * b + j)) : dst L a b = dst M a b := by
  have h0 := h 0 (by omega)
  have h1 := h 1 (by omega)
  have h2 := h 2 (by omega)
  simp only [Nat.add_zero] at h0
  unfold dst
  rw [h0.1, h0.2, h1.1, h1.2, h2.1, h2.2]
theorem lps_congr {L M : Nat → Int32} {a b : Nat} (h : ∀ j, j < 3 → L (3 * a + j) = M (3 * a + j) ∧ L (3 * b + j) = M (3 * b + j)) : lps L a b = lps M a b := by
  have h0 := h 0 (by omega)
  have h1 := h 1 (by omega)
  have h2 := h 2 (by omega)
  simp only [Nat.add_zero] at h0
  unfold lps
  rw [h0.1, h0.2, h1.1, h1.2, h2.1, h2.2]
theorem lips_step {v : Mm} {i n : Nat} {a b x3 x4 : Int32} {P : Int32 → Prop} (h : ¬ 3 ≤ x4) (hP : pk (g_X2_lips_L5 v i a b n (x3 + l01 (v 7 i (Int32.toNatClampNeg (a * 3 + x4))) (v 7 i (Int32.toNatClampNeg (b * 3 + x4)))) (x4 + 1)) P) : pk (g_X2_lips_L5 v i a b (n + 1) x3 x4) P := by
  show pk (b_X2_lips_L5 (g_X2_lips_L5 v i a b n) v i a b x3 x4) P
  unfold b_X2_lips_L5
  rw [if_neg h]
  refine pk_grd _ (fun _ => pk_grd _ (fun _ => ?_))
  unfold l01 at hP
  refine pk_ite _ (fun c => ?_) (fun c => ?_)
  · rw [if_pos c] at hP; exact hP
  · rw [if_neg c, Int32.add_zero] at hP; exact hP
theorem p_lips (v : Mm) (i : Nat) (a b : Int32) (ha : 0 ≤ a.toInt ∧ a.toInt ≤ 6) (hb : 0 ≤ b.toInt ∧ b.toInt ≤ 6) : pk (g_X2_lips v i a b) (fun r => r = lps (v 7 i) (Int32.toNatClampNeg a) (Int32.toNatClampNeg b)) := by
  unfold g_X2_lips
  refine lips_step (n := 1999) (by decide) (lips_step (n := 1998) (by decide) (lips_step (n := 1997) (by decide) ?_))
  show pk (b_X2_lips_L5 (g_X2_lips_L5 v i a b 1996) v i a b _ _) _
  unfold b_X2_lips_L5
  rw [if_pos (by decide)]
  refine pk_some ?_
  rw [ix3 ha.1 ha.2 (by decide) (by decide), ix3 ha.1 ha.2 (by decide) (by decide), ix3 ha.1 ha.2 (by decide) (by decide), ix3 hb.1 hb.2 (by decide) (by decide), ix3 hb.1 hb.2 (by decide) (by decide), ix3 hb.1 hb.2 (by decide) (by decide)]
  rfl
def LM (v : Mm) : Nat → Int32 := fun k => v 36 0 (8 + k)
def KM (v : Mm) : Nat → Int32 := fun g => v 36 0 (26 + 3 * g)
theorem ix8 {a x : Int32} (h1 : 0 ≤ a.toInt) (h2 : a.toInt ≤ 6) (h3 : 0 ≤ x.toInt) (h4 : x.toInt ≤ 20) : Int32.toNatClampNeg (((8 : Int32) + ((3 : Int32) * a)) + x) = 8 + (3 * Int32.toNatClampNeg a + Int32.toNatClampNeg x) := by
  have e8 : (8 : Int32).toInt = 8 := by decide
  have e1 := sp_cmulx 3 a 3 (by decide) (by omega)
  have e2 := sp_addx 8 ((3 : Int32) * a) (by omega)
  have e3 := sp_addx ((8 : Int32) + (3 : Int32) * a) x (by omega)
  rw [tcn, tcn, tcn]
  omega
theorem distM_step {v : Mm} {n : Nat} {a b x3 x4 : Int32} {P : Int32 → Prop} (h : ¬ 3 ≤ x4) (hP : pk (g_X8_distance_L5 v a b n (x3 + d01 (v 36 0 (Int32.toNatClampNeg (((8 : Int32) + ((3 : Int32) * a)) + x4))) (v 36 0 (Int32.toNatClampNeg (((8 : Int32) + ((3 : Int32) * b)) + x4)))) (x4 + 1)) P) : pk (g_X8_distance_L5 v a b (n + 1) x3 x4) P := by
  show pk (b_X8_distance_L5 (g_X8_distance_L5 v a b n) v a b x3 x4) P
  unfold b_X8_distance_L5
  rw [if_neg h]
  refine pk_grd _ (fun _ => pk_grd _ (fun _ => ?_))
  unfold d01 at hP
  refine pk_ite _ (fun c => ?_) (fun c => ?_)
  · rw [if_pos c] at hP; exact hP
  · rw [if_neg c] at hP; exact hP
theorem p_distM (v : Mm) (a b : Int32) (ha : 0 ≤ a.toInt ∧ a.toInt ≤ 6) (hb : 0 ≤ b.toInt ∧ b.toInt ≤ 6) : pk (g_X8_distance v a b) (fun r => r = dst (LM v) (Int32.toNatClampNeg a) (Int32.toNatClampNeg b)) := by
  unfold g_X8_distance
  refine distM_step (n := 1999) (by decide) (distM_step (n := 1998) (by decide) (distM_step (n := 1997) (by decide) ?_))
  show pk (b_X8_distance_L5 (g_X8_distance_L5 v a b 1996) v a b _ _) _
  unfold b_X8_distance_L5
  rw [if_pos (by decide)]
  refine pk_some ?_
  rw [ix8 ha.1 ha.2 (by decide) (by decide), ix8 ha.1 ha.2 (by decide) (by decide), ix8 ha.1 ha.2 (by decide) (by decide), ix8 hb.1 hb.2 (by decide) (by decide), ix8 hb.1 hb.2 (by decide) (by decide), ix8 hb.1 hb.2 (by decide) (by decide)]
  rfl
theorem lipsM_step {v : Mm} {n : Nat} {a b x3 x4 : Int32} {P : Int32 → Prop} (h : ¬ 3 ≤ x4) (hP : pk (g_X8_lips_L5 v a b n (x3 + l01 (v 36 0 (Int32.toNatClampNeg (((8 : Int32) + ((3 : Int32) * a)) + x4))) (v 36 0 (Int32.toNatClampNeg (((8 : Int32) + ((3 : Int32) * b)) + x4)))) (x4 + 1)) P) : pk (g_X8_lips_L5 v a b (n + 1) x3 x4) P := by
  show pk (b_X8_lips_L5 (g_X8_lips_L5 v a b n) v a b x3 x4) P
  unfold b_X8_lips_L5
  rw [if_neg h]
  refine pk_grd _ (fun _ => pk_grd _ (fun _ => ?_))
  unfold l01 at hP
  refine pk_ite _ (fun c => ?_) (fun c => ?_)
  · rw [if_pos c] at hP; exact hP
  · rw [if_neg c] at hP; exact hP
theorem p_lipsM (v : Mm) (a b : Int32) (ha : 0 ≤ a.toInt ∧ a.toInt ≤ 6) (hb : 0 ≤ b.toInt ∧ b.toInt ≤ 6) : pk (g_X8_lips v a b) (fun r => r = lps (LM v) (Int32.toNatClampNeg a) (Int32.toNatClampNeg b)) := by
  unfold g_X8_lips
  refine lipsM_step (n := 1999) (by decide) (lipsM_step (n := 1998) (by decide) (lipsM_step (n := 1997) (by decide) ?_))
  show pk (b_X8_lips_L5 (g_X8_lips_L5 v a b 1996) v a b _ _) _
  unfold b_X8_lips_L5
  rw [if_pos (by decide)]
  refine pk_some ?_
  rw [ix8 ha.1 ha.2 (by decide) (by decide), ix8 ha.1 ha.2 (by decide) (by decide), ix8 ha.1 ha.2 (by decide) (by decide), ix8 hb.1 hb.2 (by decide) (by decide), ix8 hb.1 hb.2 (by decide) (by decide), ix8 hb.1 hb.2 (by decide) (by decide)]
  rfl
def tkn (L : Nat → Int32) (kind : Int32) (a s : Nat) (night : Int32) : Int32 := if kind = 1 then (if dst L a s = 0 then 1 else 0) else if kind = 2 then (if 1 < dst L a s then 0 else 1) else if kind = 3 then (if night - night / 2 * 2 = 0 then (if dst L a s = 0 then 1 else 0) else 0) else if kind = 4 then (if lps L a s = 3 then 1 else 0) else (if lps L a s < 2 then 0 else 1)
theorem tkn_01 (L : Nat → Int32) (kind : Int32) (a s : Nat) (night : Int32) : tkn L kind a s night = 0 ∨ tkn L kind a s night = 1 := by
  unfold tkn
  repeat' split
  all_goals simp
theorem tkn_congr {L M : Nat → Int32} {a s : Nat} {k n : Int32} (h : ∀ j, j < 3 → L (3 * a + j) = M (3 * a + j) ∧ L (3 * s + j) = M (3 * s + j)) : tkn L k a s n = tkn M k a s n := by
  unfold tkn
  rw [dst_congr h, lps_congr h]
theorem pk_b01 {o : Option Int32} {x : Int32} {c : Int32 → Prop} {d : DecidablePred c} {A B y : Int32} (h : pk o (fun r => r = x)) (hy : (if c x then A else B) = y) : pk (Option.bind o (fun r => @ite _ (c r) (d r) (some A) (some B))) (fun r => r = y) := by
  refine pk_bind h (fun r er => ?_)
  rw [er]
  by_cases q : c x
  · rw [if_pos q] at hy ⊢; exact pk_some hy
  · rw [if_neg q] at hy ⊢; exact pk_some hy
theorem p_would (v : Mm) (k a s n : Int32) (ha : 0 ≤ a.toInt ∧ a.toInt ≤ 6) (hs : 0 ≤ s.toInt ∧ s.toInt ≤ 6) (hk : 1 ≤ k.toInt ∧ k.toInt ≤ 5) : pk (g_X2_wouldTake v 0 k a s n) (fun r => r = tkn (v 7 0) k (Int32.toNatClampNeg a) (Int32.toNatClampNeg s) n) := by
  have hd := p_dist v 0 a s ha hs
  have hl := p_lips v 0 a s ha hs
  unfold g_X2_wouldTake tkn
  by_cases k1 : k = 1
  · rw [if_pos k1, if_pos k1]; exact pk_b01 (c := fun r => r = 0) hd rfl
  rw [if_neg k1, if_neg k1]
  by_cases k2 : k = 2
  · rw [if_pos k2, if_pos k2]; exact pk_b01 (c := fun r => 1 < r) hd rfl
  rw [if_neg k2, if_neg k2]
  by_cases k3 : k = 3
  · rw [if_pos k3, if_pos k3]
    by_cases q : n - n / 2 * 2 = 0
    · rw [if_pos q, if_pos q]; exact pk_b01 (c := fun r => r = 0) hd rfl
    · rw [if_neg q, if_neg q]; exact pk_some rfl
  rw [if_neg k3, if_neg k3]
  by_cases k4 : k = 4
  · rw [if_pos k4, if_pos k4]; exact pk_b01 (c := fun r => r = 3) hl rfl
  rw [if_neg k4, if_neg k4]
  have k5 : k = 5 := by
    have q1 := i_ne k1
    have q2 := i_ne k2
    have q3 := i_ne k3
    have q4 := i_ne k4
    have e1 : (1 : Int32).toInt = 1 := by decide
    have e2 : (2 : Int32).toInt = 2 := by decide
    have e3 : (3 : Int32).toInt = 3 := by decide
    have e4 : (4 : Int32).toInt = 4 := by decide
    have e5 : (5 : Int32).toInt = 5 := by decide
    exact Int32.toInt_inj.mp (by omega)
  rw [if_pos k5]
  exact pk_b01 (c := fun r => r < 2) hl rfl
theorem p_takesBy (v : Mm) (k a s n : Int32) (ha : 0 ≤ a.toInt ∧ a.toInt ≤ 6) (hs : 0 ≤ s.toInt ∧ s.toInt ≤ 6) : pk (g_X8_takesBy v k a s n) (fun r => r = tkn (LM v) k (Int32.toNatClampNeg a) (Int32.toNatClampNeg s) n) := by
  have hd := p_distM v a s ha hs
  have hl := p_lipsM v a s ha hs
  have e1 : (1 : Int32).toInt = 1 := by decide
  have e2 : (2 : Int32).toInt = 2 := by decide
  unfold g_X8_takesBy tkn
  by_cases k1 : k = 1
  · rw [if_pos k1, if_pos k1]; exact pk_b01 (c := fun r => r = 0) hd rfl
  rw [if_neg k1, if_neg k1]
  by_cases k2 : k = 2
  · rw [if_pos k2, if_pos k2]
    refine pk_b01 (c := fun r => 2 ≤ r) hd ?_
    by_cases q : 2 ≤ dst (LM v) (Int32.toNatClampNeg a) (Int32.toNatClampNeg s)
    · rw [if_pos q, if_pos (Int32.lt_iff_toInt_lt.mpr (by have := i_le q; omega))]
    · rw [if_neg q, if_neg (fun p => by have := i_nle q; have := i_lt p; omega)]
  rw [if_neg k2, if_neg k2]
  by_cases k3 : k = 3
  · rw [if_pos k3, if_pos k3]
    refine pk_bind hd (fun r er => ?_)
    rw [er]
    by_cases q : n - n / 2 * 2 = 0
    · by_cases p : dst (LM v) (Int32.toNatClampNeg a) (Int32.toNatClampNeg s) = 0
      · simp only [if_pos p, if_pos q]; exact pk_some rfl
      · simp only [if_neg p, if_pos q]; exact pk_some rfl
    · by_cases p : dst (LM v) (Int32.toNatClampNeg a) (Int32.toNatClampNeg s) = 0
      · simp only [if_pos p, if_neg q]; exact pk_some rfl
      · simp only [if_neg p, if_neg q]; exact pk_some rfl
  rw [if_neg k3, if_neg k3]
  by_cases k4 : k = 4
  · rw [if_pos k4, if_pos k4]; exact pk_b01 (c := fun r => r = 3) hl rfl
  rw [if_neg k4, if_neg k4]
  refine pk_b01 (c := fun r => r ≤ 1) hl ?_
  by_cases q : lps (LM v) (Int32.toNatClampNeg a) (Int32.toNatClampNeg s) < 2
  · rw [if_pos q, if_pos (Int32.le_iff_toInt_le.mpr (by have := i_lt q; omega))]
  · rw [if_neg q, if_neg (fun p => by have := i_nlt q; have := i_le p; omega)]
def grd (n g : Int32) : Int32 := n - n / g * g
theorem grd_rg {n g : Int32} (hn : 0 ≤ n.toInt) (hg : 0 < g.toInt) : 0 ≤ (grd n g).toInt ∧ (grd n g).toInt < g.toInt := by
  have := sp_rem (a := n) (b := g) hn hg
  exact ⟨this.2.1, this.2.2.1⟩
theorem scr_rg {start step shrove words night : Int32} (h1 : 0 ≤ start.toInt ∧ start.toInt ≤ 9) (h2 : 0 ≤ step.toInt ∧ step.toInt ≤ 9) (h3 : 0 < words.toInt) (h4 : 0 ≤ night.toInt ∧ night.toInt ≤ 2000) : 0 ≤ (scr start step shrove words night).toInt ∧ (scr start step shrove words night).toInt < words.toInt := by
  have e0 : (0 : Int32).toInt = 0 := by decide
  unfold scr
  by_cases q : night - night / 7 * 7 = shrove
  · rw [if_pos q, e0]; omega
  · rw [if_neg q]
    have m := sp_mulr (a := step) (b := night) 9 2000 h2.1 h2.2 h4.1 h4.2 (by decide)
    have a := sp_addx start (step * night) (by omega)
    have := sp_rem (a := start + step * night) (b := words) (by omega) h3
    exact ⟨this.2.1, this.2.2.1⟩
def cat (L K : Nat → Int32) (G there : Int32) (word : Nat) (hour night : Int32) (secret : Nat) : Int32 := if (there >>> (grd (night + hour) G &&& 31)) &&& 1 = 0 then 0 else tkn L (K (Int32.toNatClampNeg (grd (night + hour) G))) word secret night
theorem cat_01 (L K : Nat → Int32) (G there : Int32) (word : Nat) (hour night : Int32) (secret : Nat) : cat L K G there word hour night secret = 0 ∨ cat L K G there word hour night secret = 1 := by
  unfold cat
  by_cases q : (there >>> (grd (night + hour) G &&& 31)) &&& 1 = 0
  · rw [if_pos q]; exact Or.inl rfl
  · rw [if_neg q]; exact tkn_01 _ _ _ _ _
theorem pk_id01 {o : Option Int32} {x : Int32} (h : pk o (fun r => r = x)) (h01 : x = 0 ∨ x = 1) : pk (Option.bind o (fun r => if r = 0 then (some 0) else (some 1))) (fun r => r = x) := by
  refine pk_bind h (fun r er => ?_)
  rw [er]
  rcases h01 with q | q
  · rw [q, if_pos rfl]; exact pk_some rfl
  · rw [q, if_neg (by decide)]; exact pk_some rfl
/-- kinds are told -/
def KDS (K : Nat → Int32) (G : Int32) : Prop := ∀ g : Nat, (g : Int) < G.toInt → 1 ≤ (K g).toInt ∧ (K g).toInt ≤ 5
theorem p_catchesIf (v : Mm) (s w h n : Int32) (hG : 0 < (v 6 0 7).toInt) (hK : KDS (v 8 0) (v 6 0 7)) (hw : 0 ≤ w.toInt ∧ w.toInt ≤ 6) (hs : 0 ≤ s.toInt ∧ s.toInt ≤ 6) (hn : 0 ≤ (n + h).toInt) : pk (g_X2_catchesIf v 0 s w h n) (fun r => r = cat (v 7 0) (v 8 0) (v 6 0 7) (v 10 0 6) (Int32.toNatClampNeg w) h n (Int32.toNatClampNeg s)) := by
  have hr := grd_rg (n := n + h) (g := v 6 0 7) hn hG
  unfold g_X2_catchesIf g_X2_guardOn
  rw [q_rest v _ _ hG]
  refine pk_let (fun r er => ?_)
  have er : r = grd (n + h) (v 6 0 7) := er
  rw [q_there]
  refine pk_let (fun r5 er5 => ?_)
  unfold cat
  rw [er5, er]
  refine pk_ite _ (fun c => ?_) (fun c => ?_)
  · rw [if_pos c]; exact pk_some rfl
  · rw [if_neg c]
    refine pk_grd _ (fun _ => ?_)
    have hc : ((Int32.toNatClampNeg (grd (n + h) (v 6 0 7)) : Nat) : Int) < (v 6 0 7).toInt := by rw [tcn]; omega
    exact pk_id01 (p_would v _ w s n hw hs (hK _ hc)) (tkn_01 _ _ _ _ _)
theorem p_isTaken (v : Mm) (w h n there s : Int32) (hw : 0 ≤ w.toInt ∧ w.toInt ≤ 6) (hs : 0 ≤ s.toInt ∧ s.toInt ≤ 6) (hG : 0 < (v 36 0 4).toInt ∧ (v 36 0 4).toInt ≤ 4) (hn : 0 ≤ (n + h).toInt) : pk (g_X8_isTaken v w h n there s) (fun r => r = cat (LM v) (KM v) (v 36 0 4) there (Int32.toNatClampNeg w) h n (Int32.toNatClampNeg s)) := by
  have hr := grd_rg (n := n + h) (g := v 36 0 4) hn hG.1
  unfold g_X8_isTaken g_X8_guardOn
  rw [tc_4]
  show pk (Option.bind (if v 36 0 4 = 0 then none else some (grd (n + h) (v 36 0 4))) _) _
  rw [if_neg (nz (by omega))]
  refine pk_let (fun r er => ?_)
  rw [q_has, er]
  refine pk_let (fun r5 er5 => ?_)
  unfold cat
  rw [er5]
  refine pk_ite _ (fun c => ?_) (fun c => ?_)
  · rw [if_pos c]; exact pk_some rfl
  · rw [if_neg c]
    unfold g_X8_kindIn
    have c2 := tcn (grd (n + h) (v 36 0 4))
    obtain ⟨x1, -, -⟩ := ixm (x := grd (n + h) (v 36 0 4)) (k := Int32.toNatClampNeg (grd (n + h) (v 36 0 4))) 26 26 (by decide) (by omega) (by omega) (by omega)
    rw [x1]
    by_cases q : (26 : Int32) + ((3 : Int32) * grd (n + h) (v 36 0 4)) < 0 ∨ 65 ≤ 26 + 3 * Int32.toNatClampNeg (grd (n + h) (v 36 0 4))
    · rw [if_pos q]; intro b e; cases e
    · rw [if_neg q]
      refine pk_let (fun r9 er9 => ?_)
      rw [er9]
      exact pk_id01 (p_takesBy v _ w s n hw hs) (tkn_01 _ _ _ _ _)
/-- one gate's words -/
theorem RSt.let3 {vx vm : Mm} (h : RSt vx 0 vm 36 0) (h6 : (vx 6 0 6).toInt ≤ 6) {a b : Nat} (ha : (a : Int) < (vx 6 0 6).toInt) (hb : (b : Int) < (vx 6 0 6).toInt) : ∀ j, j < 3 → (vx 7 0) (3 * a + j) = LM vm (3 * a + j) ∧ (vx 7 0) (3 * b + j) = LM vm (3 * b + j) := by
  intro j hj
  have q := h.2.2.2.2.1
  have q1 := q (3 * a + j) (by omega) (by omega)
  have q2 := q (3 * b + j) (by omega) (by omega)
  rw [Nat.zero_add] at q1 q2
  exact ⟨q1, q2⟩
theorem RSt.kds {vx vm : Mm} (h : RSt vx 0 vm 36 0) (h7 : (vx 6 0 7).toInt ≤ 4) : KDS (vx 8 0) (vx 6 0 7) ∧ ∀ g : Nat, (g : Int) < (vx 6 0 7).toInt → vx 8 0 g = KM vm g := by
  have q := h.2.2.2.2.2
  refine ⟨fun g hg => ?_, fun g hg => ?_⟩
  · have := q g (by omega) hg
    exact ⟨this.2.1, this.2.2.1⟩
  · have := (q g (by omega) hg).1
    rw [Nat.zero_add] at this
    exact this
theorem cat_eq {vx vm : Mm} (h : RSt vx 0 vm 36 0) (h6 : (vx 6 0 6).toInt ≤ 6) (h7 : 0 < (vx 6 0 7).toInt ∧ (vx 6 0 7).toInt ≤ 4) {w s : Nat} (hw : (w : Int) < (vx 6 0 6).toInt) (hs : (s : Int) < (vx 6 0 6).toInt) {hour night there : Int32} (hn : 0 ≤ (night + hour).toInt) : cat (LM vm) (KM vm) (vm 36 0 4) there w hour night s = cat (vx 7 0) (vx 8 0) (vx 6 0 7) there w hour night s := by
  have e4 : vx 6 0 7 = vm 36 0 4 := h.2.2.2.1
  have hr := grd_rg (n := night + hour) (g := vx 6 0 7) hn h7.1
  unfold cat
  rw [← e4]
  have hc : ((Int32.toNatClampNeg (grd (night + hour) (vx 6 0 7)) : Nat) : Int) < (vx 6 0 7).toInt := by rw [tcn]; omega
  rw [← (h.kds h7.2).2 _ hc, tkn_congr (fun j hj => ⟨((h.let3 h6 hw hs j hj).1).symm, ((h.let3 h6 hw hs j hj).2).symm⟩)]
/-! a gate that stands: its ranges -/
def RG5 (v : Mm) : Prop := (0 < (v 6 0 6).toInt ∧ (v 6 0 6).toInt ≤ 6) ∧ (0 < (v 6 0 7).toInt ∧ (v 6 0 7).toInt ≤ 4) ∧ (0 ≤ (v 10 0 4).toInt ∧ (v 10 0 4).toInt ≤ 999) ∧ (0 ≤ (v 10 0 5).toInt ∧ (v 10 0 5).toInt ≤ 9) ∧ (0 ≤ (v 6 0 4).toInt ∧ (v 6 0 4).toInt ≤ 9)
theorem RG5.of {vx vm : Mm} (hX : PW rgX vx) (hM : IM vm) (h : RSt vx 0 vm 36 0) (hw : 0 < (vx 6 0 6).toInt) : RG5 vx := by
  have q6 : (0 : Int) ≤ (vx 6 0 6).toInt ∧ (vx 6 0 6).toInt ≤ (6 : Int) := hX 6 0 6
  have q7 : (0 : Int) ≤ (vx 6 0 7).toInt ∧ (vx 6 0 7).toInt ≤ (4 : Int) := hX 6 0 7
  have q4 : (0 : Int) ≤ (vx 10 0 4).toInt ∧ (vx 10 0 4).toInt ≤ (999 : Int) := hX 10 0 4
  have q5 : (0 : Int) ≤ (vx 10 0 5).toInt ∧ (vx 10 0 5).toInt ≤ (9 : Int) := hX 10 0 5
  have q8 : (0 : Int) ≤ (vx 6 0 4).toInt ∧ (vx 6 0 4).toInt ≤ (9 : Int) := hX 6 0 4
  have e3 : vx 6 0 6 = vm 36 0 3 := h.2.2.1
  have e4 : vx 6 0 7 = vm 36 0 4 := h.2.2.2.1
  have hg : 0 < (vx 6 0 7).toInt := by
    rcases hM.2.1 with ⟨p, -⟩ | ⟨-, p⟩
    · have p : (vm 36 0 3).toInt = 0 := p
      rw [e3] at hw; omega
    · have p : 0 < (vm 36 0 4).toInt := p
      rw [e4]; exact p
  exact ⟨⟨hw, q6.2⟩, ⟨hg, q7.2⟩, q4, q5, q8⟩
theorem RG5.eq {v w : Mm} (h : RG5 v) (h6 : ∀ j, w 6 0 j = v 6 0 j) (h10 : ∀ j, w 10 0 j = v 10 0 j) : RG5 w := by
  unfold RG5
  rw [h6, h6, h6, h10, h10]; exact h
def SEC (v : Mm) (d : Int32) : Int32 := scr (v 10 0 5) (v 6 0 4) (v 6 0 5) (v 6 0 6) (v 10 0 4 + d)
theorem SEC_rg {v : Mm} (h : RG5 v) {d : Int32} (hd : 0 ≤ d.toInt ∧ d.toInt ≤ 60) : 0 ≤ (SEC v d).toInt ∧ (SEC v d).toInt < (v 6 0 6).toInt := by
  obtain ⟨h1, h2, h3, h4, h5⟩ := h
  have s := sp_addx (v 10 0 4) d (by omega)
  exact scr_rg h4 h5 h1.1 (by omega)
/-- whether one is taken, some nights ahead -/
def CT (v : Mm) (w hour d : Int32) : Int32 := cat (v 7 0) (v 8 0) (v 6 0 7) (v 10 0 6) (Int32.toNatClampNeg w) hour (v 10 0 4 + d) (Int32.toNatClampNeg (SEC v d))
theorem x_taken {vx vm : Mm} (hR : RG5 vx) (h : RSt vx 0 vm 36 0) {w hour d : Int32} (hw : 0 ≤ w.toInt ∧ w.toInt < (vx 6 0 6).toInt) (hh : 0 ≤ hour.toInt ∧ hour.toInt < 6) (hd : 0 ≤ d.toInt ∧ d.toInt ≤ 60) : pk (g_X2_catches vx 0 w hour d) (fun r => r = CT vx w hour d) := by
  have hs := SEC_rg hR hd
  obtain ⟨h1, h2, h3, h4, h5⟩ := hR
  have s := sp_addx (vx 10 0 4) d (by omega)
  have s2 := sp_addx (vx 10 0 4 + d) hour (by omega)
  unfold g_X2_catches
  rw [q_secretIn vx d h1.1]
  refine pk_let (fun r er => ?_)
  have er : r = SEC vx d := er
  rw [er]
  refine pk_bind (p_catchesIf vx (SEC vx d) w hour (vx 10 0 4 + d) h2.1 (h.kds h2.2).1 (by omega) (by omega) (by omega)) (fun r5 er5 => pk_some er5)
theorem m_taken {vx vm : Mm} (hR : RG5 vx) (hG : GB vx vm) {w hour d : Int32} (hw : 0 ≤ w.toInt ∧ w.toInt < (vx 6 0 6).toInt) (hh : 0 ≤ hour.toInt ∧ hour.toInt < 6) (hd : 0 ≤ d.toInt ∧ d.toInt ≤ 60) : pk (g_X8_isTakenNow vm w hour d) (fun r => r = CT vx w hour d) := by
  have hs := SEC_rg hR hd
  obtain ⟨h1, h2, h3, h4, h5⟩ := hR
  have s := sp_addx (vx 10 0 4) d (by omega)
  have s2 := sp_addx (vx 10 0 4 + d) hour (by omega)
  have e4 : vx 6 0 7 = vm 36 0 4 := hG.1.2.2.2.1
  have e5 : vx 10 0 4 = vm 36 0 5 := hG.2.1.2.1
  have e6 : vx 10 0 6 = vm 36 0 6 := hG.2.1.2.2.1
  unfold g_X8_isTakenNow
  rw [tc_5, tc_6, ← e5, ← e6]
  refine pk_let (fun x ex => ?_)
  refine pk_bind (q_secretOf vm x) (fun r er => ?_)
  rw [hG.scr, ex] at er
  have er : r = SEC vx d := er
  rw [er, ex]
  refine pk_bind (p_isTaken vm w hour (vx 10 0 4 + d) (vx 10 0 6) (SEC vx d) (by omega) (by omega) (by rw [← e4]; exact h2) (by omega)) (fun r6 er6 => pk_some ?_)
  have c1 := tcn w
  have c2 := tcn (SEC vx d)
  rw [er6, cat_eq hG.1 h1.2 h2 (by omega) (by omega) (by omega)]
  rfl
theorem CT_eq {v z : Mm} (h : ∀ t j, 6 ≤ t → t ≤ 10 → z t 0 j = v t 0 j) (w hour d : Int32) : CT z w hour d = CT v w hour d := by
  have a7 : z 7 0 = v 7 0 := funext (fun j => h 7 j (by omega) (by omega))
  have a8 : z 8 0 = v 8 0 := funext (fun j => h 8 j (by omega) (by omega))
  unfold CT SEC
  rw [a7, a8, h 6 7 (by omega) (by omega), h 6 4 (by omega) (by omega), h 6 5 (by omega) (by omega), h 6 6 (by omega) (by omega), h 10 4 (by omega) (by omega), h 10 5 (by omega) (by omega), h 10 6 (by omega) (by omega)]
/-! say -/
def sayU (x r14 is gv : Int32) (v22 : Mm) : Option (Int32 × Mm) := if x + 1 < 0 ∨ 65 ≤ Int32.toNatClampNeg (x + 1) then none else (Option.bind (some (up3 v22 36 0 (Int32.toNatClampNeg (x + 1)) gv)) (fun v28 => if x + 2 < 0 ∨ 65 ≤ Int32.toNatClampNeg (x + 2) then none else (Option.bind (some (up3 v28 36 0 (Int32.toNatClampNeg (x + 2)) is)) (fun v30 => Option.bind (some (up3 v30 36 0 (Int32.toNatClampNeg 7) ((v30 36 0 (Int32.toNatClampNeg 7)) + 1))) (fun v31 => if ((26 : Int32) + ((3 : Int32) * r14)) + 2 < 0 ∨ 65 ≤ Int32.toNatClampNeg (((26 : Int32) + ((3 : Int32) * r14)) + 2) then none else (if ((26 : Int32) + ((3 : Int32) * r14)) + 2 < 0 ∨ 65 ≤ Int32.toNatClampNeg (((26 : Int32) + ((3 : Int32) * r14)) + 2) then none else (Option.bind (some (up3 v31 36 0 (Int32.toNatClampNeg (((26 : Int32) + ((3 : Int32) * r14)) + 2)) ((v31 36 0 (Int32.toNatClampNeg (((26 : Int32) + ((3 : Int32) * r14)) + 2))) + is))) (fun v34 => some (is, v34)))))))))
def sayT (a1 r14 is : Int32) (v12 : Mm) : Option (Int32 × Mm) := Option.bind (some ((38 : Int32) + ((3 : Int32) * (v12 36 0 (Int32.toNatClampNeg 7))))) (fun x20 => if x20 < 0 ∨ 65 ≤ Int32.toNatClampNeg x20 then none else (Option.bind (some (up3 v12 36 0 (Int32.toNatClampNeg x20) a1)) (fun v22 => Option.bind (g_X8_has v22 (v22 36 0 (Int32.toNatClampNeg 6)) r14) (fun r24 => if r24 = 0 then sayU x20 r14 is 0 v22 else sayU x20 r14 is (r14 + 1) v22))))
set_option maxRecDepth 100000 in
set_option maxHeartbeats 4000000 in
theorem q_say (v : Mm) (a1 a2 : Int32) : g_X8_say v a1 a2 = Option.bind (g_X8_isWord v a1) (fun r2 => if r2 = 0 then (some ((-1000001), v)) else (Option.bind (g_X8_isHour v a2) (fun r6 => if r6 = 0 then (some ((-1000001), v)) else (if v 36 0 (Int32.toNatClampNeg 7) = 9 then (some ((-1000003), v)) else (Option.bind (g_X8_notes v) (fun v12 => Option.bind (g_X8_guardOn v12 a2 (v12 36 0 (Int32.toNatClampNeg 5))) (fun r14 => Option.bind (g_X8_isTakenNow v12 a1 a2 0) (fun r17 => if r17 = 0 then sayT a1 r14 0 v12 else sayT a1 r14 1 v12)))))))) := rfl
/-- what a man leaves in the class's moment -/
theorem p_addTry (v : Mm) (a1 a2 a3 : Int32) (h0 : 0 ≤ (v 10 0 7).toInt) (h8 : (v 10 0 7).toInt < 9) (h3 : a3 = 0 ∨ a3 = 1) : pk (g_X4_addTry v 0 a1 a2 a3) (fun z => z 10 0 7 = v 10 0 7 + 1 ∧ (∀ j, j ≠ 7 → z 10 0 j = v 10 0 j) ∧ z 12 0 (Int32.toNatClampNeg (v 10 0 7)) = a1 ∧ z 13 0 (Int32.toNatClampNeg (v 10 0 7)) = a2 ∧ z 14 0 (Int32.toNatClampNeg (v 10 0 7)) = a3 ∧ (∀ t j, 12 ≤ t → t ≤ 14 → j ≠ Int32.toNatClampNeg (v 10 0 7) → z t 0 j = v t 0 j) ∧ (∀ j, z 11 0 j = if a3 = 1 ∧ 0 ≤ a2.toInt ∧ a2.toInt < 4 ∧ j = Int32.toNatClampNeg a2 then v 11 0 j + 1 else v 11 0 j) ∧ ∀ t i j, ¬ (i = 0 ∧ 10 ≤ t ∧ t ≤ 14) → z t i j = v t i j) := by
  have e0 : (0 : Int32).toInt = 0 := by decide
  have e4 : (4 : Int32).toInt = 4 := by decide
  have e9 : (9 : Int32).toInt = 9 := by decide
  unfold g_X4_addTry
  rw [if_pos (Int32.lt_iff_toInt_lt.mpr (by omega))]
  refine pk_grd _ (fun _ => pk_let (fun v3 e3 => pk_grd _ (fun _ => pk_let (fun v5 e5 => ?_))))
  have a3' : v3 10 0 7 = v 10 0 7 := by rw [e3]; exact up3_t (by decide)
  rw [a3'] at e5
  have a5' : v5 10 0 7 = v 10 0 7 := by rw [e5, up3_t (by decide)]; exact a3'
  rw [q_bit h3]
  refine pk_let (fun r7 er7 => pk_grd _ (fun _ => pk_let (fun v10 e10 => pk_let (fun v11 e11 => ?_))))
  rw [a5', er7] at e10
  have a10' : v10 10 0 7 = v 10 0 7 := by rw [e10, up3_t (by decide)]; exact a5'
  rw [a10'] at e11
  have base : v11 10 0 7 = v 10 0 7 + 1 ∧ (∀ j, j ≠ 7 → v11 10 0 j = v 10 0 j) ∧ v11 12 0 (Int32.toNatClampNeg (v 10 0 7)) = a1 ∧ v11 13 0 (Int32.toNatClampNeg (v 10 0 7)) = a2 ∧ v11 14 0 (Int32.toNatClampNeg (v 10 0 7)) = a3 ∧ (∀ t j, 12 ≤ t → t ≤ 14 → j ≠ Int32.toNatClampNeg (v 10 0 7) → v11 t 0 j = v t 0 j) ∧ (∀ j, v11 11 0 j = v 11 0 j) ∧ ∀ t i j, ¬ (i = 0 ∧ 10 ≤ t ∧ t ≤ 14) → v11 t i j = v t i j := by
    refine ⟨?_, fun j hj => ?_, ?_, ?_, ?_, fun t j h1 h2 hj => ?_, fun j => ?_, fun t i j hn => ?_⟩
    · rw [e11]; exact up3_s
    · rw [e11, up3_j hj, e10, up3_t (by decide), e5, up3_t (by decide), e3, up3_t (by decide)]
    · rw [e11, up3_t (by decide), e10, up3_t (by decide), e5, up3_t (by decide), e3]; exact up3_s
    · rw [e11, up3_t (by decide), e10, up3_t (by decide), e5]; exact up3_s
    · rw [e11, up3_t (by decide), e10]; exact up3_s
    · rw [e11, up3_t (by omega), e10, up3_j hj, e5, up3_j hj, e3, up3_j hj]
    · rw [e11, up3_t (by decide), e10, up3_t (by decide), e5, up3_t (by decide), e3, up3_t (by decide)]
    · rw [e11]; unfold up3
      rw [if_neg (by omega), e10]; unfold up3
      rw [if_neg (by omega), e5]; unfold up3
      rw [if_neg (by omega), e3]; unfold up3
      rw [if_neg (by omega)]
  obtain ⟨b1, b2, b3, b4, b5, b6, b7, b8⟩ := base
  have same : ¬ (a3 = 1 ∧ 0 ≤ a2.toInt ∧ a2.toInt < 4) → pk (some v11) (fun z => z 10 0 7 = v 10 0 7 + 1 ∧ (∀ j, j ≠ 7 → z 10 0 j = v 10 0 j) ∧ z 12 0 (Int32.toNatClampNeg (v 10 0 7)) = a1 ∧ z 13 0 (Int32.toNatClampNeg (v 10 0 7)) = a2 ∧ z 14 0 (Int32.toNatClampNeg (v 10 0 7)) = a3 ∧ (∀ t j, 12 ≤ t → t ≤ 14 → j ≠ Int32.toNatClampNeg (v 10 0 7) → z t 0 j = v t 0 j) ∧ (∀ j, z 11 0 j = if a3 = 1 ∧ 0 ≤ a2.toInt ∧ a2.toInt < 4 ∧ j = Int32.toNatClampNeg a2 then v 11 0 j + 1 else v 11 0 j) ∧ ∀ t i j, ¬ (i = 0 ∧ 10 ≤ t ∧ t ≤ 14) → z t i j = v t i j) := by
    intro hn
    refine pk_some ⟨b1, b2, b3, b4, b5, b6, fun j => ?_, b8⟩
    rw [if_neg (fun q => hn ⟨q.1, q.2.1, q.2.2.1⟩)]; exact b7 j
  refine pk_ite _ (fun c => same (fun q => by rw [c] at q; exact absurd q.1 (by decide))) (fun c => ?_)
  have c3 : a3 = 1 := h3.resolve_left c
  refine pk_ite _ (fun c2 => same (fun q => by have := i_lt c2; omega)) (fun c2 => ?_)
  refine pk_ite _ (fun c4 => same (fun q => by have := i_le c4; omega)) (fun c4 => ?_)
  have k2 := i_nlt c2
  have k4 := i_nle c4
  refine pk_grd _ (fun _ => pk_grd _ (fun _ => pk_let (fun z ez => pk_some ?_)))
  have zt : ∀ t i j, ¬ (t = 11 ∧ i = 0 ∧ j = Int32.toNatClampNeg a2) → z t i j = v11 t i j := fun t i j q => by rw [ez]; unfold up3; exact if_neg q
  refine ⟨?_, fun j hj => ?_, ?_, ?_, ?_, fun t j h1 h2 hj => ?_, fun j => ?_, fun t i j hn => ?_⟩
  · rw [zt _ _ _ (by omega)]; exact b1
  · rw [zt _ _ _ (by omega)]; exact b2 j hj
  · rw [zt _ _ _ (by omega)]; exact b3
  · rw [zt _ _ _ (by omega)]; exact b4
  · rw [zt _ _ _ (by omega)]; exact b5
  · rw [zt _ _ _ (by omega)]; exact b6 t j h1 h2 hj
  · by_cases q : j = Int32.toNatClampNeg a2
    · rw [if_pos ⟨c3, by omega, by omega, q⟩, q, ez, up3_s, b7]
    · rw [if_neg (fun p => q p.2.2.2), zt _ _ _ (fun p => q p.2.2)]; exact b7 j
  · rw [zt _ _ _ (by omega)]; exact b8 t i j hn
