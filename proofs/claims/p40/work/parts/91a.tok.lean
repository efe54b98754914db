/-! TWO READERS OF ONE TEXT: tokens -/
def bt (L : Int32) (B : Nat → Int32) (x : Int32) : Int32 := if L ≤ x then -1 else B (Int32.toNatClampNeg x)
def fig (c : Int32) : Prop := 48 ≤ c.toInt ∧ c.toInt ≤ 57
def tk (c : Int32) : Int32 := if 0 ≤ c then (if 97 ≤ c.toInt ∧ c.toInt ≤ 122 then 1 else if c = 44 then 3 else if c = 59 then 4 else 5) else 0
def vl1 (c : Int32) : Int32 := (((10 : Int32) * 0) + c) - 48
def vl2 (c d : Int32) : Int32 := (((10 : Int32) * vl1 c) + d) - 48
/-- the token that begins at x: its kind, its value, where it ends -/
def TOK (L : Int32) (B : Nat → Int32) (x tok val at_ : Int32) : Prop :=
  (¬ fig (bt L B x) → val = bt L B x ∧ tok = tk (bt L B x) ∧ at_ = x + (if tk (bt L B x) = 0 then 0 else 1)) ∧
  (fig (bt L B x) → ¬ fig (bt L B (x + 1)) → tok = 2 ∧ val = vl1 (bt L B x) ∧ at_ = x + 1) ∧
  (fig (bt L B x) → fig (bt L B (x + 1)) → ¬ fig (bt L B (x + 1 + 1)) → tok = 2 ∧ val = vl2 (bt L B x) (bt L B (x + 1)) ∧ at_ = x + 1 + 1) ∧
  (fig (bt L B x) → fig (bt L B (x + 1)) → fig (bt L B (x + 1 + 1)) → tok = 5)
theorem bt_lt {L : Int32} {B : Nat → Int32} {x : Int32} (h : fig (bt L B x)) : x.toInt < L.toInt := by
  unfold bt fig at h
  by_cases c : L ≤ x
  · rw [if_pos c] at h
    have e : (-1 : Int32).toInt = -1 := by decide
    omega
  · exact i_nle c
theorem p_byteAt (w : Mm) (x : Int32) : pk (g_X8_byteAt w x) (fun r => r = bt (w 30 0 6) (w 35 0) x) := by
  unfold g_X8_byteAt bt
  exact pk_ite _ (fun c => pk_some (if_pos c).symm) (fun c => pk_grd _ (fun _ => pk_some (if_neg c).symm))
theorem p_here (v : Mm) : pk (g_X6_here v) (fun r => r = hereF v) := by
  unfold g_X6_here hereF
  exact pk_ite _ (fun c => pk_some (if_pos c).symm) (fun c => pk_grd _ (fun _ => pk_some (if_neg c).symm))
theorem hereF_bt (v : Mm) : hereF v = bt (v 4 0 2) (v 5 0) (v 4 0 5) := rfl
theorem b_in {α : Type} (v : Mm) (a lo hi : Int32) (A B : Option α) : Option.bind (g_X8_in v a lo hi) (fun r => if r = 0 then A else B) = if (lo.toInt ≤ a.toInt ∧ a.toInt ≤ hi.toInt) then B else A := by
  rw [q_X8_in]
  exact b01_z A B
theorem adv_tail {w : Mm} {T : Int32} {P : Mm → Prop} (h : P (up3 (up3 w 30 0 11 T) 30 0 9 (w 30 0 9 + (if T = 0 then 0 else 1)))) : pk (Option.bind (some (up3 w 30 0 11 T)) (fun v25 => if v25 30 0 11 = 0 then (Option.bind (some (up3 v25 30 0 9 ((v25 30 0 9) + 0))) (fun v28 => some v28)) else (Option.bind (some (up3 v25 30 0 9 ((v25 30 0 9) + 1))) (fun v27 => some v27)))) P := by
  refine pk_let (fun z ez => ?_)
  have e1 : z 30 0 11 = T := by rw [ez]; exact up3_s
  have e2 : z 30 0 9 = w 30 0 9 := by rw [ez]; exact up3_j (by decide)
  rw [e1]
  refine pk_ite _ (fun c => ?_) (fun c => ?_)
  · rw [if_pos c] at h
    show pk (some (up3 z 30 0 9 ((z 30 0 9) + 0))) P
    rw [e2, ez]; exact pk_some h
  · rw [if_neg c] at h
    show pk (some (up3 z 30 0 9 ((z 30 0 9) + 1))) P
    rw [e2, ez]; exact pk_some h
/-! the figures' loop of the reference -/
theorem adv_stop {n : Nat} {w : Mm} {x : Int32} {P : Mm → Prop} (h : ¬ fig (bt (w 30 0 6) (w 35 0) (w 30 0 9))) (hP : P (up3 w 30 0 11 (if 3 ≤ (w 30 0 9) - (w 30 0 10) then 5 else 2))) : pk (g_X8_advances_L38 (n + 1) w x) P := by
  show pk (b_X8_advances_L38 (g_X8_advances_L38 n) w x) P
  unfold b_X8_advances_L38
  refine pk_bind (p_byteAt w _) (fun r er => ?_)
  rw [b_in, if_neg (fun q => h (by rw [← er]; exact q))]
  refine pk_ite _ (fun c => ?_) (fun c => ?_)
  · rw [if_pos c] at hP; exact pk_some hP
  · rw [if_neg c] at hP; exact pk_some hP
theorem adv_fig {n : Nat} {w : Mm} {x : Int32} {P : Mm → Prop} (h : fig (bt (w 30 0 6) (w 35 0) (w 30 0 9))) (h2 : ¬ 2 ≤ (w 30 0 9) - (w 30 0 10)) (hP : ∀ w1, w1 = up3 (up3 w 30 0 12 ((((10 : Int32) * (w 30 0 12)) + (bt (w 30 0 6) (w 35 0) (w 30 0 9))) - 48)) 30 0 9 ((w 30 0 9) + 1) → pk (g_X8_advances_L38 n w1 x) P) : pk (g_X8_advances_L38 (n + 1) w x) P := by
  show pk (b_X8_advances_L38 (g_X8_advances_L38 n) w x) P
  unfold b_X8_advances_L38
  refine pk_bind (p_byteAt w _) (fun r er => ?_)
  rw [b_in, if_pos (by rw [er]; exact h), if_neg h2]
  refine pk_bind (p_byteAt w _) (fun r2 er2 => ?_)
  refine pk_let (fun w1 ew1 => pk_let (fun w2 ew2 => ?_))
  refine hP w2 ?_
  have e2 : w1 30 0 9 = w 30 0 9 := by rw [ew1]; exact up3_j (by decide)
  rw [ew2, e2, ew1, er2]
theorem adv_fig2 {n : Nat} {w : Mm} {x : Int32} {P : Mm → Prop} (h : fig (bt (w 30 0 6) (w 35 0) (w 30 0 9))) (h2 : 2 ≤ (w 30 0 9) - (w 30 0 10)) (hP : ∀ w1, w1 = up3 (up3 w 30 0 12 (w 30 0 12)) 30 0 9 ((w 30 0 9) + 1) → pk (g_X8_advances_L38 n w1 x) P) : pk (g_X8_advances_L38 (n + 1) w x) P := by
  show pk (b_X8_advances_L38 (g_X8_advances_L38 n) w x) P
  unfold b_X8_advances_L38
  refine pk_bind (p_byteAt w _) (fun r er => ?_)
  rw [b_in, if_pos (by rw [er]; exact h), if_pos h2]
  refine pk_let (fun w1 ew1 => pk_let (fun w2 ew2 => ?_))
  refine hP w2 ?_
  have e2 : w1 30 0 9 = w 30 0 9 := by rw [ew1]; exact up3_j (by decide)
  rw [ew2, e2, ew1]
abbrev sTK : List Nat := [209, 210, 211, 212]
theorem adv_long : ∀ (n : Nat) (w : Mm) (x : Int32), 0 ≤ (w 30 0 10).toInt → (w 30 0 10).toInt + 3 ≤ (w 30 0 9).toInt → (w 30 0 9).toInt ≤ 200 → (w 30 0 6).toInt ≤ 100 → pk (g_X8_advances_L38 n w x) (fun z => FR sTK w z ∧ z 30 0 10 = w 30 0 10 ∧ z 30 0 11 = 5) := by
  have e1 : (1 : Int32).toInt = 1 := by decide
  have e2 : (2 : Int32).toInt = 2 := by decide
  have e3 : (3 : Int32).toInt = 3 := by decide
  intro n
  induction n with
  | zero => intro w x _ _ _ _ b e; cases e
  | succ n ih =>
    intro w x h0 h1 h2 h3
    have hs := sp_subx (w 30 0 9) (w 30 0 10) (by omega)
    by_cases c : fig (bt (w 30 0 6) (w 35 0) (w 30 0 9))
    · have hlt := bt_lt c
      have ha := sp_addx (w 30 0 9) 1 (by omega)
      refine adv_fig2 c (Int32.le_iff_toInt_le.mpr (by omega)) (fun w1 ew1 => ?_)
      have f9 : w1 30 0 9 = w 30 0 9 + 1 := by rw [ew1]; exact up3_s
      have f10 : w1 30 0 10 = w 30 0 10 := by rw [ew1, up3_j (by decide), up3_j (by decide)]
      have f6 : w1 30 0 6 = w 30 0 6 := by rw [ew1, up3_j (by decide), up3_j (by decide)]
      have hF : FR sTK w w1 := by rw [ew1]; exact ((FR.refl _ _).upf (by decide)).upf (by decide)
      refine (ih w1 x (by rw [f10]; exact h0) (by rw [f10, f9]; omega) (by rw [f9]; omega) (by rw [f6]; exact h3)).mono (fun z hz => ⟨hF.tr hz.1 (by decide), hz.2.1.trans f10, hz.2.2⟩)
    · refine adv_stop c ?_
      rw [if_pos (Int32.le_iff_toInt_le.mpr (by omega))]
      exact ⟨(FR.refl _ _).upf (by decide), up3_j (by decide), up3_s⟩
set_option maxHeartbeats 4000000 in
theorem p_adv (v : Mm) (h0 : 0 ≤ (v 30 0 9).toInt) (h1 : (v 30 0 9).toInt ≤ 100) (h2 : (v 30 0 6).toInt ≤ 100) : pk (g_X8_advances v) (fun z => FR sTK v z ∧ z 30 0 10 = v 30 0 9 ∧ TOK (v 30 0 6) (v 35 0) (v 30 0 9) (z 30 0 11) (z 30 0 12) (z 30 0 9)) := by
  have e1 : (1 : Int32).toInt = 1 := by decide
  have e2 : (2 : Int32).toInt = 2 := by decide
  have e3 : (3 : Int32).toInt = 3 := by decide
  have e0 : (0 : Int32).toInt = 0 := by decide
  unfold g_X8_advances
  refine pk_let (fun v1 ev1 => ?_)
  refine pk_bind (p_byteAt v1 _) (fun c ec => ?_)
  have a9 : v1 30 0 9 = v 30 0 9 := by rw [ev1]; exact up3_j (by decide)
  have a6 : v1 30 0 6 = v 30 0 6 := by rw [ev1]; exact up3_j (by decide)
  have a35 : v1 35 0 = v 35 0 := by rw [ev1]; exact up3_far (by decide)
  rw [a9, a6, a35] at ec
  have F1 : FR sTK v v1 := by rw [ev1]; exact (FR.refl _ _).upf (by decide)
  refine pk_let (fun v5 ev5 => ?_)
  have F5 : FR sTK v v5 := by rw [ev5]; exact F1.upf (by decide)
  have b9 : v5 30 0 9 = v 30 0 9 := by rw [ev5, up3_j (by decide), a9]
  have b6 : v5 30 0 6 = v 30 0 6 := by rw [ev5, up3_j (by decide), a6]
  have b35 : v5 35 0 = v 35 0 := by rw [ev5, up3_far (by decide), a35]
  have b10 : v5 30 0 10 = v 30 0 9 := by rw [ev5, up3_j (by decide), ev1]; exact up3_s
  have b12 : v5 30 0 12 = c := by rw [ev5]; exact up3_s
  rw [b_in]
  refine pk_ite _ (fun hf => ?_) (fun hf => ?_)
  · -- figures
    have f0 : fig (bt (v 30 0 6) (v 35 0) (v 30 0 9)) := by rw [← ec]; exact hf
    have l0 := bt_lt f0
    refine pk_let (fun w0 ew0 => ?_)
    have c9 : w0 30 0 9 = v 30 0 9 := by rw [ew0, up3_j (by decide), b9]
    have c6 : w0 30 0 6 = v 30 0 6 := by rw [ew0, up3_j (by decide), b6]
    have c35 : w0 35 0 = v 35 0 := by rw [ew0, up3_far (by decide), b35]
    have c10 : w0 30 0 10 = v 30 0 9 := by rw [ew0, up3_j (by decide), b10]
    have c12 : w0 30 0 12 = 0 := by rw [ew0]; exact up3_s
    have G0 : FR sTK v w0 := by rw [ew0]; exact F5.upf (by decide)
    have s0 := sp_subx (v 30 0 9) (v 30 0 9) (by omega)
    refine adv_fig (n := 1999) (by rw [c6, c35, c9]; exact f0) (fun q => by rw [c9, c10] at q; have := i_le q; omega) (fun w1 ew1 => ?_)
    rw [c12, c6, c35, c9] at ew1
    have d9 : w1 30 0 9 = v 30 0 9 + 1 := by rw [ew1]; exact up3_s
    have d6 : w1 30 0 6 = v 30 0 6 := by rw [ew1, up3_j (by decide), up3_j (by decide), c6]
    have d35 : w1 35 0 = v 35 0 := by rw [ew1, up3_far (by decide), up3_far (by decide), c35]
    have d10 : w1 30 0 10 = v 30 0 9 := by rw [ew1, up3_j (by decide), up3_j (by decide), c10]
    have d12 : w1 30 0 12 = vl1 (bt (v 30 0 6) (v 35 0) (v 30 0 9)) := by rw [ew1, up3_j (by decide)]; exact up3_s
    have G1 : FR sTK v w1 := by rw [ew1]; exact (G0.upf (by decide)).upf (by decide)
    have x1 := sp_addx (v 30 0 9) 1 (by omega)
    have s1 := sp_subx (v 30 0 9 + 1) (v 30 0 9) (by omega)
    by_cases f1 : fig (bt (v 30 0 6) (v 35 0) (v 30 0 9 + 1))
    · have l1 := bt_lt f1
      refine adv_fig (n := 1998) (by rw [d6, d35, d9]; exact f1) (fun q => by rw [d9, d10] at q; have := i_le q; omega) (fun w2 ew2 => ?_)
      rw [d12, d6, d35, d9] at ew2
      have g9 : w2 30 0 9 = v 30 0 9 + 1 + 1 := by rw [ew2]; exact up3_s
      have g6 : w2 30 0 6 = v 30 0 6 := by rw [ew2, up3_j (by decide), up3_j (by decide), d6]
      have g35 : w2 35 0 = v 35 0 := by rw [ew2, up3_far (by decide), up3_far (by decide), d35]
      have g10 : w2 30 0 10 = v 30 0 9 := by rw [ew2, up3_j (by decide), up3_j (by decide), d10]
      have g12 : w2 30 0 12 = vl2 (bt (v 30 0 6) (v 35 0) (v 30 0 9)) (bt (v 30 0 6) (v 35 0) (v 30 0 9 + 1)) := by rw [ew2, up3_j (by decide)]; exact up3_s
      have G2 : FR sTK v w2 := by rw [ew2]; exact (G1.upf (by decide)).upf (by decide)
      have x2 := sp_addx (v 30 0 9 + 1) 1 (by omega)
      have s2 := sp_subx (v 30 0 9 + 1 + 1) (v 30 0 9) (by omega)
      by_cases f2 : fig (bt (v 30 0 6) (v 35 0) (v 30 0 9 + 1 + 1))
      · have l2 := bt_lt f2
        refine adv_fig2 (n := 1997) (by rw [g6, g35, g9]; exact f2) (by rw [g9, g10]; exact Int32.le_iff_toInt_le.mpr (by omega)) (fun w3 ew3 => ?_)
        have h9 : w3 30 0 9 = v 30 0 9 + 1 + 1 + 1 := by rw [ew3, g9]; exact up3_s
        have h6 : w3 30 0 6 = v 30 0 6 := by rw [ew3, up3_j (by decide), up3_j (by decide), g6]
        have h10 : w3 30 0 10 = v 30 0 9 := by rw [ew3, up3_j (by decide), up3_j (by decide), g10]
        have G3 : FR sTK v w3 := by rw [ew3]; exact (G2.upf (by decide)).upf (by decide)
        have x3 := sp_addx (v 30 0 9 + 1 + 1) 1 (by omega)
        refine (adv_long 1997 w3 _ (by rw [h10]; omega) (by rw [h10, h9]; omega) (by rw [h9]; omega) (by rw [h6]; exact h2)).mono (fun z hz => ⟨G3.tr hz.1 (by decide), hz.2.1.trans h10, fun q => absurd f0 q, fun _ q => absurd f1 q, fun _ _ q => absurd f2 q, fun _ _ _ => hz.2.2⟩)
      · refine adv_stop (n := 1997) (by rw [g6, g35, g9]; exact f2) ?_
        rw [g9, g10, if_neg (fun q => by have := i_le q; omega)]
        refine ⟨G2.upf (by decide), (up3_j (by decide)).trans g10, fun q => absurd f0 q, fun _ q => absurd f1 q, fun _ _ _ => ⟨up3_s, (up3_j (by decide)).trans g12, (up3_j (by decide)).trans g9⟩, fun _ _ q => absurd q f2⟩
    · refine adv_stop (n := 1998) (by rw [d6, d35, d9]; exact f1) ?_
      rw [d9, d10, if_neg (fun q => by have := i_le q; omega)]
      refine ⟨G1.upf (by decide), (up3_j (by decide)).trans d10, fun q => absurd f0 q, fun _ _ => ⟨up3_s, (up3_j (by decide)).trans d12, (up3_j (by decide)).trans d9⟩, fun _ q => absurd q f1, fun _ q => absurd q f1⟩
  · have f0 : ¬ fig (bt (v 30 0 6) (v 35 0) (v 30 0 9)) := fun q => hf (by rw [ec]; exact q)
    have fin : ∀ T : Int32, T = tk c → FR sTK v (up3 (up3 v5 30 0 11 T) 30 0 9 (v5 30 0 9 + (if T = 0 then 0 else 1))) ∧ (up3 (up3 v5 30 0 11 T) 30 0 9 (v5 30 0 9 + (if T = 0 then 0 else 1))) 30 0 10 = v 30 0 9 ∧ TOK (v 30 0 6) (v 35 0) (v 30 0 9) ((up3 (up3 v5 30 0 11 T) 30 0 9 (v5 30 0 9 + (if T = 0 then 0 else 1))) 30 0 11) ((up3 (up3 v5 30 0 11 T) 30 0 9 (v5 30 0 9 + (if T = 0 then 0 else 1))) 30 0 12) ((up3 (up3 v5 30 0 11 T) 30 0 9 (v5 30 0 9 + (if T = 0 then 0 else 1))) 30 0 9) := by
      intro T eT
      refine ⟨(F5.upf (by decide)).upf (by decide), ?_, ?_⟩
      · rw [up3_j (by decide), up3_j (by decide), b10]
      · rw [show (up3 (up3 v5 30 0 11 T) 30 0 9 (v5 30 0 9 + (if T = 0 then 0 else 1))) 30 0 11 = T from (up3_j (by decide)).trans up3_s,
          show (up3 (up3 v5 30 0 11 T) 30 0 9 (v5 30 0 9 + (if T = 0 then 0 else 1))) 30 0 12 = c from (up3_j (by decide)).trans ((up3_j (by decide)).trans b12), up3_s, b9]
        refine ⟨fun _ => ⟨ec, ?_, ?_⟩, fun q => absurd q f0, fun q => absurd q f0, fun q => absurd q f0⟩
        · rw [eT, ec]
        · rw [eT, ec]
    refine pk_ite _ (fun k0 => ?_) (fun k0 => ?_)
    · rw [b_in]
      have ek : tk c = (if 97 ≤ c.toInt ∧ c.toInt ≤ 122 then 1 else if c = 44 then 3 else if c = 59 then 4 else 5) := by unfold tk; exact if_pos k0
      refine pk_ite _ (fun k1 => ?_) (fun k1 => ?_)
      · exact adv_tail (fin 1 (by rw [ek]; exact (if_pos k1).symm))
      · have ek1 : tk c = (if c = 44 then 3 else if c = 59 then 4 else 5) := by rw [ek]; exact if_neg k1
        refine pk_ite _ (fun k2 => ?_) (fun k2 => ?_)
        · exact adv_tail (fin 3 (by rw [ek1]; exact (if_pos k2).symm))
        · refine pk_ite _ (fun k3 => ?_) (fun k3 => ?_)
          · exact adv_tail (fin 4 (by rw [ek1, if_neg k2]; exact (if_pos k3).symm))
          · exact adv_tail (fin 5 (by rw [ek1, if_neg k2]; exact (if_neg k3).symm))
    · exact adv_tail (fin 0 (by unfold tk; exact (if_neg k0).symm))
