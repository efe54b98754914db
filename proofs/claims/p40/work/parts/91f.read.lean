/-! the whole text: the reference's rows in short -/
def gEnd (v : Mm) : Option (Int32 × Mm) := Option.bind (some (up3 v 30 0 6 0)) (fun v59 => Option.bind (g_X8_isWell v59) (fun r61 => if r61 = 0 then (some (((-1000100)) - (v59 30 0 8), v59)) else (Option.bind (g_X8_copies_37_36 v59 0 0) (fun v66 => Option.bind (some (up3 v66 30 0 17 0)) (fun v67 => some (v67 36 0 (Int32.toNatClampNeg 3), v67))))))
def gE (w : Mm) : Option (Int32 × Mm) := if w 30 0 11 = 0 then (Option.bind (g_X8_must w 1) (fun v => gEnd v)) else (Option.bind (g_X8_must w 0) (fun v => gEnd v))
def gM (w : Mm) (x : Int32) : Option (Int32 × Mm) := if w 30 0 11 = 1 then (Option.bind (g_X8_kindOf w (w 30 0 12)) (fun r40 => if r40 ≤ 0 then (Option.bind (g_X8_must w 0) (fun v => g_X8_gate_L205 2000 v x)) else (Option.bind (g_X8_must w 1) (fun v => g_X8_gate_L205 2000 v x)))) else (Option.bind (g_X8_must w 0) (fun v => g_X8_gate_L205 2000 v x))
def gK2 (v : Mm) (x : Int32) : Option (Int32 × Mm) := if v 30 0 11 = 1 then (if v 30 0 12 = 119 then (Option.bind (g_X8_must v 1) (fun w => g_X8_gate_L147 2000 w x)) else (Option.bind (g_X8_must v 0) (fun w => g_X8_gate_L147 2000 w x))) else (Option.bind (g_X8_must v 0) (fun w => g_X8_gate_L147 2000 w x))
def gK1d (v : Mm) (x : Int32) : Option (Int32 × Mm) := if v 30 0 11 = 4 then (kb2 (g_X8_takes v 1 1) (fun _ w => gK2 w x)) else (kb2 (g_X8_takes v 0 1) (fun _ w => gK2 w x))
def gK1c (v : Mm) (x : Int32) : Option (Int32 × Mm) := kb2 (g_X8_follows v 0 6) (fun r109 v110 => Option.bind (some (up3 v110 37 0 (Int32.toNatClampNeg 2) r109)) (fun v111 => gK1d v111 x))
def gK1b (v : Mm) (x : Int32) : Option (Int32 × Mm) := kb2 (g_X8_follows v 0 9) (fun r105 v106 => Option.bind (some (up3 v106 37 0 (Int32.toNatClampNeg 1) r105)) (fun v107 => gK1c v107 x))
def gK1 (v : Mm) (x : Int32) : Option (Int32 × Mm) := kb2 (g_X8_figure v 0 9) (fun r101 v102 => Option.bind (some (up3 v102 37 0 (Int32.toNatClampNeg 0) r101)) (fun v103 => gK1b v103 x))
def gK0 (w2 : Mm) (x : Int32) : Option (Int32 × Mm) := Option.bind (some (up3 w2 30 0 9 0)) (fun v2 => Option.bind (some (up3 v2 30 0 8 ((-1)))) (fun v3 => Option.bind (g_X8_advances v3) (fun v6 => if v6 30 0 11 = 1 then (if v6 30 0 12 = 113 then (kb2 (g_X8_takes v6 1 1) (fun _ w => gK1 w x)) else (kb2 (g_X8_takes v6 0 1) (fun _ w => gK1 w x))) else (kb2 (g_X8_takes v6 0 1) (fun _ w => gK1 w x)))))
set_option maxRecDepth 100000 in
set_option maxHeartbeats 4000000 in
theorem q_L205 (n : Nat) (w : Mm) (x : Int32) : g_X8_gate_L205 (n + 1) w x = Option.bind (g_X8_isWell w) (fun r40 => if r40 = 0 then gE w else (if w 30 0 11 = 1 then (Option.bind (g_X8_kindOf w (w 30 0 12)) (fun r95 => if r95 ≤ 0 then gE w else (Option.bind (g_X8_readsGuard w) (fun v125 => g_X8_gate_L205 n v125 x)))) else gE w)) := rfl
set_option maxRecDepth 100000 in
set_option maxHeartbeats 4000000 in
theorem q_L147 (n : Nat) (w : Mm) (x : Int32) : g_X8_gate_L147 (n + 1) w x = Option.bind (g_X8_isWell w) (fun r32 => if r32 = 0 then gM w x else (if w 30 0 11 = 1 then (if w 30 0 12 = 119 then (Option.bind (g_X8_readsWord w) (fun v81 => g_X8_gate_L147 n v81 x)) else gM w x) else gM w x)) := rfl
set_option maxRecDepth 100000 in
set_option maxHeartbeats 4000000 in
theorem q_L2 (n : Nat) (w : Mm) (x : Int32) : g_X8_gate_L2 (n + 1) w x = if 65 ≤ x then gK0 w x else (if x < 0 ∨ 65 ≤ Int32.toNatClampNeg x then none else (Option.bind (some (up3 w 37 0 (Int32.toNatClampNeg x) 0)) (fun v142 => g_X8_gate_L2 n v142 (x + 1)))) := rfl
/-! once a fault is found -/
def gBad (v : Mm) : Option (Int32 × Mm) := some (((-1000100)) - (v 30 0 8), up3 v 30 0 6 0)
theorem s_gEnd {v : Mm} (h : 0 ≤ (v 30 0 8).toInt) : gEnd v = gBad v := by
  unfold gEnd gBad
  have e : (up3 v 30 0 6 0) 30 0 8 = v 30 0 8 := up3_j (by decide)
  rw [Option.bind_some, q_ill (by rw [e]; exact h), bind0, e]
theorem s_gE {v : Mm} (h : 0 ≤ (v 30 0 8).toInt) : gE v = gBad v := by
  unfold gE
  rw [s_must h, s_must h, Option.bind_some, ite_self, s_gEnd h]
theorem s_L205 {v : Mm} (h : 0 ≤ (v 30 0 8).toInt) (n : Nat) (x : Int32) : g_X8_gate_L205 (n + 1) v x = gBad v := by
  rw [q_L205, q_ill h, bind0, s_gE h]
theorem s_gM {v : Mm} (h : 0 ≤ (v 30 0 8).toInt) (x : Int32) : gM v x = gBad v := by
  unfold gM
  rw [s_must h, s_must h, q_X8_kindOf, Option.bind_some, Option.bind_some, ite_self, ite_self, s_L205 (n := 1999) h]
theorem s_L147 {v : Mm} (h : 0 ≤ (v 30 0 8).toInt) (n : Nat) (x : Int32) : g_X8_gate_L147 (n + 1) v x = gBad v := by
  rw [q_L147, q_ill h, bind0, s_gM h]
theorem s_gK2 {v : Mm} (h : 0 ≤ (v 30 0 8).toInt) (x : Int32) : gK2 v x = gBad v := by
  unfold gK2
  rw [s_must h, s_must h, Option.bind_some, ite_self, ite_self, s_L147 (n := 1999) h]
theorem s_gK1d {v : Mm} (h : 0 ≤ (v 30 0 8).toInt) (x : Int32) : gK1d v x = gBad v := by
  unfold gK1d
  rw [q_takes_s h, q_takes_s h, kb2_sm, ite_self, s_gK2 h]
/-- a fault on both sides, as the gate's call shows it -/
def GBD (ux um : Mm) (a b : Int32 × Mm) : Prop := a.1 = 0 ∧ b.1 = ((-1000100)) - (a.2 4 0 4) ∧ a.2 4 0 3 = b.2 30 0 7 ∧ FPX ux a.2 ∧ FPMf um b.2
theorem gbd {ux um vx vm : Mm} (h : FLT vx vm) (fx : FPX ux vx) (fm : FPMf um vm) {Q : (Int32 × Mm) → (Int32 × Mm) → Prop} (hQ : ∀ a b, GBD ux um a b → Q a b) : rel (some (0, vx)) (gBad vm) Q := by
  refine rel_some (hQ _ _ ⟨rfl, ?_, ?_, fx, ?_⟩)
  · show ((-1000100)) - (vm 30 0 8) = ((-1000100)) - (vx 4 0 4)
    rw [h.2.2.1]
  · show vx 4 0 3 = up3 vm 30 0 6 0 30 0 7
    rw [up3_j (by decide)]; exact h.2.1
  · intro t i j h1 h2 h3 h4
    show up3 vm 30 0 6 0 t i j = um t i j
    rw [← fm t i j h1 h2 h3 h4]
    unfold up3
    exact if_neg (fun q => by have := h4 q.1; omega)
theorem s_gK1c {ux um vx vm : Mm} {x : Int32} (h : FLT vx vm) (fx : FPX ux vx) (fm : FPMf um vm) {Q : (Int32 × Mm) → (Int32 × Mm) → Prop} (hQ : ∀ a b, GBD ux um a b → Q a b) : rel (some (0, vx)) (gK1c vm x) Q := by
  unfold gK1c
  rw [s_follows h.2.2.2, kb2_sm, Option.bind_some]
  have F : FR [37] vm (up3 vm 37 0 (Int32.toNatClampNeg 2) 0) := (FR.refl _ _).upa (by decide) (by decide)
  have h' : FLT vx (up3 vm 37 0 (Int32.toNatClampNeg 2) 0) := h.fr (FR.refl [] _) F (by decide) (by decide)
  rw [s_gK1d h'.2.2.2]
  exact gbd h' fx (fun t i j h1 h2 h3 h4 => (up3_t h3).trans (fm t i j h1 h2 h3 h4)) hQ
theorem s_gK1b {ux um vx vm : Mm} {x : Int32} (h : FLT vx vm) (fx : FPX ux vx) (fm : FPMf um vm) {Q : (Int32 × Mm) → (Int32 × Mm) → Prop} (hQ : ∀ a b, GBD ux um a b → Q a b) : rel (some (0, vx)) (gK1b vm x) Q := by
  unfold gK1b
  rw [s_follows h.2.2.2, kb2_sm, Option.bind_some]
  have F : FR [37] vm (up3 vm 37 0 (Int32.toNatClampNeg 1) 0) := (FR.refl _ _).upa (by decide) (by decide)
  exact s_gK1c (h.fr (FR.refl [] _) F (by decide) (by decide)) fx (fun t i j h1 h2 h3 h4 => (up3_t h3).trans (fm t i j h1 h2 h3 h4)) hQ
theorem s_gK1 {ux um vx vm : Mm} {x : Int32} (h : FLT vx vm) (fx : FPX ux vx) (fm : FPMf um vm) {Q : (Int32 × Mm) → (Int32 × Mm) → Prop} (hQ : ∀ a b, GBD ux um a b → Q a b) : rel (some (0, vx)) (gK1 vm x) Q := by
  unfold gK1
  rw [s_figure h.2.2.2, kb2_sm, Option.bind_some]
  have F : FR [37] vm (up3 vm 37 0 (Int32.toNatClampNeg 0) 0) := (FR.refl _ _).upa (by decide) (by decide)
  exact s_gK1b (h.fr (FR.refl [] _) F (by decide) (by decide)) fx (fun t i j h1 h2 h3 h4 => (up3_t h3).trans (fm t i j h1 h2 h3 h4)) hQ
/-- a whole gate on both sides -/
def GOK (ux um : Mm) (a b : Int32 × Mm) : Prop := a.1 = 1 ∧ b.1 = a.2 6 1 6 ∧ RSt a.2 1 b.2 36 0 ∧ RMo a.2 1 b.2 36 0 ∧ b.2 30 0 17 = 0 ∧ FPX ux a.2 ∧ ∀ t i j, 30 ≤ t → t < 50 → t ≠ 37 → t ≠ 36 → (t = 30 → j < 6 ∨ j = 7 ∨ (12 < j ∧ j < 60 ∧ j ≠ 17)) → b.2 t i j = um t i j
def GQ (ux um : Mm) (a b : Int32 × Mm) : Prop := GBD ux um a b ∨ GOK ux um a b
theorem st_ok {ux um vx vm : Mm} (hI : INV vx vm) (hD : DR vx vm) (fx : FPX ux vx) (fm : FPM um vm) : rel (Option.bind (g_X4_begin vx 1 (vx 6 1 7)) (fun v20 => some (1, v20))) (gEnd vm) (GQ ux um) := by
  obtain ⟨⟨w1, w2, w3, w4⟩, ⟨g1, g2, g3, g4, g5, g6⟩, z1, z2, z3, z4, z5⟩ := hD
  refine rel_bindL (p_begin vx 1 (vx 6 1 7)) (fun v20 hb => ?_)
  obtain ⟨b1, b2, b3, b4, b5, b6⟩ := hb
  unfold gEnd
  refine rel_letR (fun v59 e59 => ?_)
  have e8 : v59 30 0 8 = -1 := by rw [e59, up3_j (by decide)]; exact hI.2.2.2.2.2.1
  rw [q_well e8, bind1]
  refine rel_bindR (p_cp3736 v59) (fun v66 h66 => rel_letR (fun v67 e67 => ?_))
  have m36 : ∀ j, j < 65 → v67 36 0 j = vm 37 0 j := fun j hj => by rw [e67, up3_t (by decide), h66.1 j hj, e59, up3_t (by decide)]
  rw [tc_3]
  have c6 : ∀ j, v20 6 1 j = vx 6 1 j := fun j => b6 6 1 j (by omega)
  refine rel_some (Or.inr ⟨rfl, ?_, ⟨?_, ?_, ?_, ?_, ?_, ?_⟩, ⟨?_, ?_, ?_, ?_, ?_, ?_, ?_, ?_⟩, ?_, ?_, ?_⟩)
  · show v67 36 0 3 = v20 6 1 6
    rw [m36 3 (by omega), c6]; exact w1.symm
  · show v20 6 1 4 = v67 36 0 (0 + 1)
    rw [c6, m36 _ (by omega)]; exact z2
  · show v20 6 1 5 = v67 36 0 (0 + 2)
    rw [c6, m36 _ (by omega)]; exact z3
  · show v20 6 1 6 = v67 36 0 (0 + 3)
    rw [c6, m36 _ (by omega)]; exact w1
  · show v20 6 1 7 = v67 36 0 (0 + 4)
    rw [c6, m36 _ (by omega)]; exact g1
  · intro k hk hw
    have hw : (k : Int) < 3 * (v20 6 1 6).toInt := hw
    rw [c6] at hw
    show v20 7 1 k = v67 36 0 (0 + (8 + k))
    rw [b6 7 1 k (by omega), m36 _ (by omega), Nat.zero_add]; exact w4 k hw
  · intro g hg hw
    have hw : (g : Int) < (v20 6 1 7).toInt := hw
    rw [c6] at hw
    show v20 8 1 g = v67 36 0 (0 + (26 + 3 * g)) ∧ 1 ≤ (v20 8 1 g).toInt ∧ (v20 8 1 g).toInt ≤ 5 ∧ v20 9 1 g = v67 36 0 (0 + (26 + 3 * g + 1)) ∧ 0 ≤ (v20 9 1 g).toInt ∧ (v20 9 1 g).toInt ≤ 9
    rw [b6 8 1 g (by omega), b6 9 1 g (by omega), m36 _ (by omega), m36 _ (by omega), Nat.zero_add, Nat.zero_add]; exact g4 g hw
  · show v20 10 1 5 = v67 36 0 (0 + 0)
    rw [b4, m36 _ (by omega)]; exact z1
  · show v20 10 1 4 = v67 36 0 (0 + 5)
    rw [b1, m36 _ (by omega)]; exact z4.symm
  · show v20 10 1 6 = v67 36 0 (0 + 6)
    rw [b2, m36 _ (by omega)]; exact g5.symm
  · show v20 10 1 7 = v67 36 0 (0 + 7)
    rw [b3, m36 _ (by omega)]; exact z5.symm
  · intro g hg
    show v20 11 1 g = if (g : Int) < (v67 36 0 (0 + 4)).toInt then v67 36 0 (0 + (26 + 3 * g + 2)) else 0
    rw [b5 g hg, m36 (0 + (26 + 3 * g + 2)) (by omega), Nat.zero_add (26 + 3 * g + 2), g6 g hg, ite_self]
  · intro k hk hw
    have hw : (k : Int) < (v67 36 0 (0 + 7)).toInt := hw
    rw [m36 _ (by omega)] at hw
    have z5' : vm 37 0 (0 + 7) = 0 := z5
    rw [z5'] at hw
    exact absurd hw (by have : (0 : Int32).toInt = 0 := by decide
                        omega)
  · show 0 ≤ (v67 36 0 (0 + 6)).toInt
    rw [m36 _ (by omega)]
    show 0 ≤ (vm 37 0 6).toInt
    rw [g5]
    obtain ⟨j, hj, ej⟩ := i_of (n := 5) g2 (by omega)
    rw [ej]
    have t : ∀ j, j < 5 → 0 ≤ (allg (nI j)).toInt := by decide +kernel
    exact t j hj
  · show (v67 36 0 (0 + 6)).toInt ≤ (allg (v67 36 0 (0 + 4))).toInt
    rw [m36 _ (by omega), m36 _ (by omega)]
    show (vm 37 0 6).toInt ≤ (allg (vm 37 0 4)).toInt
    rw [g5, g1]
    exact Int.le_refl _
  · show v67 30 0 17 = 0
    rw [e67]; exact up3_s
  · intro t i j h1 h2 h3 h4
    show v20 t i j = ux t i j
    rw [b6 t i j (by omega)]; exact fx t i j h1 h2 h3 h4
  · intro t i j h1 h2 h3 h4 h5
    show v67 t i j = um t i j
    rw [← fm t i j h1 h2 h3 (fun q => by have := h5 q; omega), e67]
    have n1 : ¬ (t = 30 ∧ i = 0 ∧ j = 17) := fun q => by have := h5 q.1; omega
    have n2 : ¬ (t = 30 ∧ i = 0 ∧ j = 6) := fun q => by have := h5 q.1; omega
    unfold up3
    rw [if_neg n1, h66.2 t i j h4, e59]
    unfold up3
    rw [if_neg n2]
/-! the guards -/
theorem rel_st {W G : Int32} {ux um : Mm} {o1 : Option (Int32 × Mm)} {o2 : Option Mm} {F : Int32 → Mm → Option (Int32 × Mm)} {K : Mm → Option (Int32 × Mm)} (h : rel o1 o2 (PST W G ux um)) (hok : ∀ vx vm, INV vx vm → DR vx vm → vx 6 1 6 = W → vx 6 1 7 = G → FPX ux vx → FPM um vm → rel (F 1 vx) (K vm) (GQ ux um)) (hbad : ∀ vx vm, FLT vx vm → FPX ux vx → FPMf um vm → rel (F 0 vx) (K vm) (GQ ux um)) : rel (kb2 o1 F) (Option.bind o2 K) (GQ ux um) := by
  intro a b e1 e2
  cases q1 : o1 with
  | none => rw [q1] at e1; cases e1
  | some z =>
    cases q2 : o2 with
    | none => rw [q2] at e2; cases e2
    | some w =>
      rw [q1] at e1
      rw [q2] at e2
      obtain ⟨hc, hx⟩ := h z w q1 q2
      rcases hc with ⟨c1, c2, c3, c4, c5⟩ | ⟨c1, c2, c3⟩
      · exact hok z.2 w c2.1 c2.2 c3 c4 hx c5 a b (by rw [← c1]; exact e1) e2
      · exact hbad z.2 w c2 hx c3 a b (by rw [← c1]; exact e1) e2
theorem kdf_le {c : Int32} : kdf c ≤ 0 ↔ kdf c = 0 := by
  rcases kdf_cases c with ⟨-, k⟩ | ⟨-, k⟩ | ⟨-, k⟩ | ⟨-, k⟩ | ⟨-, k⟩ | ⟨-, k⟩ <;> (rw [k]; decide)
theorem fault1 {ux um vx vm : Mm} (hI : INV vx vm) (fx : FPX ux vx) (fm : FPM um vm) : ∃ vm', g_X8_must vm 0 = some vm' ∧ FLT (flt vx 1) vm' ∧ FPX ux (flt vx 1) ∧ FPMf um vm' := by
  obtain ⟨q1, q2⟩ := FLT_of hI (flt_fr vx 1) (by decide) (flt_3 vx 1) (flt_4 vx 1) rfl
  exact ⟨_, q_must_f hI.2.2.2.2.2.1, q1, fx.tr (FPX.of (flt_fr vx 1) (by decide)), fm.flt q2⟩
/-- no kind of guard stands here: the class's fault -/
theorem noguard {vx : Mm} (hk : kdf (hereF vx) = 0) : pk (g_X6_readGuard vx) (fun z => z = (0, flt vx 1)) := by
  unfold g_X6_readGuard
  refine pk_bind (p_here vx) (fun r er => ?_)
  rw [er, q_X6_kindOf, if_pos hk, Option.bind_some, if_pos rfl, kb2_id, q_faulty]
  exact pk_some rfl
theorem gl_loop {ux um : Mm} {xx : Int32} : ∀ (n m : Nat) (vx vm : Mm) (x : Int32), INV vx vm → DR vx vm → FPX ux vx → FPM um vm → 0 ≤ x.toInt → (vx 6 1 7).toInt = x.toInt + 1 → rel (g_X6_read_L80 n vx x) (g_X8_gate_L205 m vm xx) (GQ ux um) := by
  have e1 : (1 : Int32).toInt = 1 := by decide
  have e4 : (4 : Int32).toInt = 4 := by decide
  intro n
  induction n with
  | zero => intro m vx vm x _ _ _ _ _ _ a b e; cases e
  | succ n ih =>
    intro m vx vm x hI hD fx fm h0 hx
    cases m with
    | zero => intro a b _ e; cases e
    | succ m =>
      have g3 := hD.2.1.2.2.1
      show rel (b_X6_read_L80 (g_X6_read_L80 n) vx x) _ _
      unfold b_X6_read_L80
      rw [if_neg (fun q => by have := i_le q; omega), q_L205, q_well hI.2.2.2.2.2.1, bind1]
      refine rel_bindL (p_here vx) (fun r er => ?_)
      rw [er]
      have endOK : hereF vx = -1 → rel (Option.bind (g_X4_begin vx 1 (vx 6 1 7)) (fun v27 => some (1, v27))) (gE vm) (GQ ux um) := by
        intro c
        unfold gE
        rw [if_pos (hI.endd.mpr c), q_must_t hI.2.2.2.2.2.1, Option.bind_some]
        exact st_ok hI hD fx fm
      have endBad : hereF vx ≠ -1 → kdf (hereF vx) = 0 → rel (kb2 (g_X6_readGuard vx) (fun r29 v30 => if r29 = 0 then (some (0, v30)) else (g_X6_read_L80 n v30 (x + 1)))) (gE vm) (GQ ux um) := by
        intro c hk
        unfold gE
        rw [if_neg (fun q => c (hI.endd.mp q))]
        obtain ⟨vm', k1, k2, k3, k4⟩ := fault1 hI fx fm
        rw [k1, Option.bind_some, s_gEnd k2.2.2.2]
        refine rel_kb2L (noguard hk) (fun r v hv => ?_)
        obtain ⟨h1, h2⟩ := Prod.mk.inj hv
        rw [h1, h2, if_pos rfl]
        exact gbd k2 k3 k4 (fun a b h => Or.inl h)
      refine rel_iteL _ (fun c => ?_) (fun c => ?_)
      · have nl : ¬ vm 30 0 11 = 1 := fun q => by
          have := hI.letter.mp q
          rw [c] at this
          exact absurd this (by decide)
        rw [if_neg nl]
        exact endOK c
      · by_cases hl : vm 30 0 11 = 1
        · rw [if_pos hl, q_X8_kindOf, hI.lval hl, Option.bind_some]
          by_cases hk : kdf (hereF vx) = 0
          · rw [if_pos (kdf_le.mpr hk)]
            exact endBad c hk
          · rw [if_neg (fun q => hk (kdf_le.mp q))]
            refine rel_st (st_guard hI hD hk fx fm) (fun vx' vm' i1 i2 i3 i4 i5 i6 => ?_) (fun vx' vm' i1 i2 i3 => ?_)
            · rw [if_neg (by decide)]
              have ex := sp_addx x 1 (by omega)
              have eg := sp_addx (vx 6 1 7) 1 (by omega)
              exact ih m vx' vm' (x + 1) i1 i2 i5 i6 (by omega) (by rw [i4]; omega)
            · rw [if_pos rfl]
              cases m with
              | zero => intro a b _ e; cases e
              | succ m =>
                rw [s_L205 i1.2.2.2]
                exact gbd i1 i2 i3 (fun a b h => Or.inl h)
        · rw [if_neg hl]
          have hk : kdf (hereF vx) = 0 := by
            by_cases hk : kdf (hereF vx) = 0
            · exact hk
            · exact absurd (hI.letter.mpr (kdf_rg hk).1) hl
          exact endBad c hk
/-! the first guard, behind the words -/
theorem gl_first {ux um vx vm : Mm} {xx : Int32} (hI : INV vx vm) (hD : DR vx vm) (hg0 : (vx 6 1 7).toInt = 0) (fx : FPX ux vx) (fm : FPM um vm) : rel (kb2 (g_X6_readGuard vx) (fun r14 v15 => if r14 = 0 then (some (0, v15)) else (g_X6_read_L80 2000 v15 0))) (gM vm xx) (GQ ux um) := by
  have e1 : (1 : Int32).toInt = 1 := by decide
  have e0 : (0 : Int32).toInt = 0 := by decide
  unfold gM
  have bad : kdf (hereF vx) = 0 → rel (kb2 (g_X6_readGuard vx) (fun r14 v15 => if r14 = 0 then (some (0, v15)) else (g_X6_read_L80 2000 v15 0))) (Option.bind (g_X8_must vm 0) (fun v => g_X8_gate_L205 2000 v xx)) (GQ ux um) := by
    intro hk
    obtain ⟨vm', k1, k2, k3, k4⟩ := fault1 hI fx fm
    rw [k1, Option.bind_some, s_L205 (n := 1999) k2.2.2.2]
    refine rel_kb2L (noguard hk) (fun r v hv => ?_)
    obtain ⟨h1, h2⟩ := Prod.mk.inj hv
    rw [h1, h2, if_pos rfl]
    exact gbd k2 k3 k4 (fun a b h => Or.inl h)
  by_cases hl : vm 30 0 11 = 1
  · rw [if_pos hl, q_X8_kindOf, hI.lval hl, Option.bind_some]
    by_cases hk : kdf (hereF vx) = 0
    · rw [if_pos (kdf_le.mpr hk)]
      exact bad hk
    · rw [if_neg (fun q => hk (kdf_le.mp q)), q_must_t hI.2.2.2.2.2.1, Option.bind_some, q_L205 1999, q_well hI.2.2.2.2.2.1, bind1, if_pos hl, q_X8_kindOf, hI.lval hl, Option.bind_some, if_neg (fun q => hk (kdf_le.mp q))]
      refine rel_st (st_guard hI hD hk fx fm) (fun vx' vm' i1 i2 i3 i4 i5 i6 => ?_) (fun vx' vm' i1 i2 i3 => ?_)
      · rw [if_neg (by decide)]
        have eg := sp_addx (vx 6 1 7) 1 (by omega)
        exact gl_loop 2000 1999 vx' vm' 0 i1 i2 i5 i6 (by omega) (by rw [i4]; omega)
      · rw [if_pos rfl, s_L205 (n := 1998) i1.2.2.2]
        exact gbd i1 i2 i3 (fun a b h => Or.inl h)
  · rw [if_neg hl]
    refine bad ?_
    by_cases hk : kdf (hereF vx) = 0
    · exact hk
    · exact absurd (hI.letter.mpr (kdf_rg hk).1) hl
/-! the words behind the first -/
theorem wl_loop {ux um : Mm} {xx : Int32} : ∀ (n m : Nat) (vx vm : Mm) (x : Int32), INV vx vm → DR vx vm → FPX ux vx → FPM um vm → (vx 6 1 7).toInt = 0 → 0 ≤ x.toInt → (vx 6 1 6).toInt = x.toInt + 1 → rel (g_X6_read_L39 n vx x) (g_X8_gate_L147 m vm xx) (GQ ux um) := by
  have e1 : (1 : Int32).toInt = 1 := by decide
  have e6 : (6 : Int32).toInt = 6 := by decide
  intro n
  induction n with
  | zero => intro m vx vm x _ _ _ _ _ _ _ a b e; cases e
  | succ n ih =>
    intro m vx vm x hI hD fx fm hg0 h0 hx
    cases m with
    | zero => intro a b _ e; cases e
    | succ m =>
      have w3 := hD.1.2.2.1
      show rel (b_X6_read_L39 (g_X6_read_L39 n) vx x) _ _
      unfold b_X6_read_L39
      rw [if_neg (fun q => by have := i_le q; omega), q_L147, q_well hI.2.2.2.2.2.1, bind1, ite_and2]
      refine rel_bindL (p_here vx) (fun r er => ?_)
      rw [er]
      have hc := hI.chr (s := 119) (by decide)
      refine rel_iteL _ (fun c => ?_) (fun c => ?_)
      · rw [if_pos (hc.mpr c)]
        refine rel_st (st_word hI hD c fx fm) (fun vx' vm' i1 i2 i3 i4 i5 i6 => ?_) (fun vx' vm' i1 i2 i3 => ?_)
        · rw [if_neg (by decide)]
          have ex := sp_addx x 1 (by omega)
          have eg := sp_addx (vx 6 1 6) 1 (by omega)
          exact ih m vx' vm' (x + 1) i1 i2 i5 i6 (by rw [i4]; exact hg0) (by omega) (by rw [i3]; omega)
        · rw [if_pos rfl]
          cases m with
          | zero => intro a b _ e; cases e
          | succ m =>
            rw [s_L147 i1.2.2.2]
            exact gbd i1 i2 i3 (fun a b h => Or.inl h)
      · rw [if_neg (fun q => c (hc.mp q))]
        exact gl_first hI hD hg0 fx fm
