/-! say, side by side -/
set_option maxHeartbeats 4000000 in
theorem say_end {vx vm z w : Mm} {a1 g c gX gM : Int32} (hR : RG5 vx) (g0 : GB z w) (p2 : ∀ t i j, ¬ (4 ≤ i ∧ 10 ≤ t ∧ t ≤ 14) → t ≠ 15 → z t i j = vx t i j) (p3 : ∀ t i j, t ≠ 39 → ¬ (t = 30 ∧ i = 0 ∧ j = 17) → w t i j = vm t i j) (hT : 0 ≤ (vx 10 0 7).toInt ∧ (vx 10 0 7).toInt < 9) (hg : 0 ≤ g.toInt ∧ g.toInt < (vx 6 0 7).toInt) (hc : c = 0 ∨ c = 1) (ha1 : 0 ≤ a1.toInt ∧ a1.toInt < (vx 6 0 6).toInt) (hth : (gX = -1000000 ∧ gM = 0 ∧ c = 0) ∨ (gX = g ∧ gM = g + 1)) : rel (Option.bind (g_X4_addTry z 0 a1 gX c) (fun v25 => Option.bind (g_X7_bit v25 c) (fun r27 => some (r27, v25)))) (sayU ((38 : Int32) + ((3 : Int32) * (vx 10 0 7))) g c gM (up3 w 36 0 (38 + 3 * Int32.toNatClampNeg (vx 10 0 7)) a1)) (actQ vx vm) := by
  have e1 : (1 : Int32).toInt = 1 := by decide
  have e0 : (0 : Int32).toInt = 0 := by decide
  obtain ⟨r1, r2, r3, r4, r5⟩ := hR
  have z7 : z 10 0 7 = vx 10 0 7 := p2 10 0 7 (by omega) (by decide)
  have z67 : z 6 0 7 = vx 6 0 7 := p2 6 0 7 (by omega) (by decide)
  obtain ⟨s1, s2, s3, s4, s5, s6⟩ := id g0.1
  obtain ⟨m1, m2, m3, m4, m5, m6, m7, m8⟩ := id g0.2.1
  simp only [Nat.zero_add] at s3 s4 m1 m2 m3 m4 m5 m6 m7 m8
  have w7 : w 36 0 7 = vx 10 0 7 := by rw [← m4]; exact z7
  have w4 : w 36 0 4 = vx 6 0 7 := by rw [← s4]; exact z67
  have w3 : w 36 0 3 = vx 6 0 6 := by rw [← s3]; exact p2 6 0 6 (by omega) (by decide)
  have cT := tcn (vx 10 0 7)
  have cg := tcn g
  obtain ⟨T, eT⟩ : ∃ T, T = Int32.toNatClampNeg (vx 10 0 7) := ⟨_, rfl⟩
  obtain ⟨G, eG⟩ : ∃ G, G = Int32.toNatClampNeg g := ⟨_, rfl⟩
  rw [← eT] at cT ⊢
  rw [← eG] at cg
  have sT := sp_addx (vx 10 0 7) 1 (by omega)
  have sg := sp_addx g 1 (by omega)
  refine rel_bindL (p_addTry z a1 gX c (by rw [z7]; exact hT.1) (by rw [z7]; exact hT.2) hc) (fun z' hz => ?_)
  rw [q_bit hc]
  refine rel_letL (fun r27 er27 => ?_)
  obtain ⟨b1, b2, b3, b4, b5, b6, b7, b8⟩ := hz
  rw [z7] at b1 b3 b4 b5 b6
  rw [← eT] at b3 b4 b5 b6
  obtain ⟨x1, x2, x3⟩ := ixm (x := vx 10 0 7) (k := T) 38 38 (by decide) (by omega) (by omega) (by omega)
  obtain ⟨y1, y2, y3⟩ := ixm (x := g) (k := G) 26 26 (by decide) (by omega) (by omega) (by omega)
  unfold sayU
  rw [x2, x3, y3, tc_7]
  refine rel_grdR _ (fun _ => rel_letR (fun n1 en1 => rel_grdR _ (fun _ => rel_letR (fun n2 en2 => rel_letR (fun n3 en3 => rel_grdR _ (fun _ => rel_grdR _ (fun _ => rel_letR (fun n4 en4 => rel_some ?_))))))))
  have n27 : n2 36 0 7 = vx 10 0 7 := by rw [en2, up3_j (by omega), en1, up3_j (by omega), up3_j (by omega)]; exact w7
  rw [n27] at en3
  have n3t : n3 36 0 (26 + 3 * G + 2) = w 36 0 (26 + 3 * G + 2) := by rw [en3, up3_j (by omega), en2, up3_j (by omega), en1, up3_j (by omega), up3_j (by omega)]
  rw [n3t] at en4
  have nn : ∀ j, j ≠ 7 → j ≠ 26 + 3 * G + 2 → ¬ (38 + 3 * T ≤ j ∧ j ≤ 38 + 3 * T + 2) → n4 36 0 j = w 36 0 j := fun j h1 h2 h3 => by
    rw [en4, up3_j h2, en3, up3_j h1, en2, up3_j (by omega), en1, up3_j (by omega), up3_j (by omega)]
  have n7 : n4 36 0 7 = vx 10 0 7 + 1 := by rw [en4, up3_j (by omega), en3, up3_s]
  have ng : n4 36 0 (26 + 3 * G + 2) = w 36 0 (26 + 3 * G + 2) + c := by rw [en4, up3_s]
  have k0 : n4 36 0 (38 + 3 * T) = a1 := by rw [en4, up3_j (by omega), en3, up3_j (by omega), en2, up3_j (by omega), en1, up3_j (by omega), up3_s]
  have k1 : n4 36 0 (38 + 3 * T + 1) = gM := by rw [en4, up3_j (by omega), en3, up3_j (by omega), en2, up3_j (by omega), en1, up3_s]
  have k2 : n4 36 0 (38 + 3 * T + 2) = c := by rw [en4, up3_j (by omega), en3, up3_j (by omega), en2, up3_s]
  have nt : ∀ t i j, t ≠ 36 → n4 t i j = w t i j := fun t i j q => by rw [en4, up3_t q, en3, up3_t q, en2, up3_t q, en1, up3_t q, up3_t q]
  refine ⟨er27, ⟨?_, ?_, ?_⟩, ?_, ?_⟩
  · show RSt z' 0 n4 36 0
    exact g0.1.sc (fun t j h1 h2 => b8 t 0 j (by omega)) (fun j hj => nn j (by unfold stc at hj; omega) (by unfold stc at hj; omega) (by unfold stc at hj; omega))
  · show RMo z' 0 n4 36 0
    unfold RMo
    simp only [Nat.zero_add]
    rw [nn 0 (by omega) (by omega) (by omega), nn 5 (by omega) (by omega) (by omega), nn 6 (by omega) (by omega) (by omega), nn 4 (by omega) (by omega) (by omega), nn 3 (by omega) (by omega) (by omega), n7, b1, b2 4 (by decide), b2 5 (by decide), b2 6 (by decide)]
    refine ⟨m1, m2, m3, rfl, fun q hq => ?_, fun k hk hw => ?_, m7, m8⟩
    · rw [b7 q]
      have mq := m5 q hq
      by_cases qG : q = G
      · have hGl : (G : Int) < (vx 6 0 7).toInt := by omega
        rw [qG, ng, w4, if_pos hGl]
        rw [qG, w4, if_pos hGl] at mq
        rcases hc with c0 | c0
        · rw [if_neg (fun p => by rw [c0] at p; exact absurd p.1 (by decide)), c0, Int32.add_zero]; exact mq
        · rcases hth with ⟨-, -, p⟩ | ⟨p, -⟩
          · rw [p] at c0; exact absurd c0 (by decide)
          · rw [p, if_pos ⟨c0, hg.1, by omega, eG⟩, c0, mq]
      · rw [nn (26 + 3 * q + 2) (by omega) (by omega) (by omega), if_neg, mq]
        intro p
        rcases hth with ⟨p1, -, -⟩ | ⟨p1, -⟩
        · rw [p1] at p
          exact absurd p.2.1 (by decide)
        · rw [p1] at p
          exact qG (p.2.2.2.trans eG.symm)
    · by_cases kT : k = T
      · subst kT
        rw [b3, b4, b5, k0, k1, k2]
        refine ⟨rfl, ?_, rfl, hc, fun q => ?_, ha1.1, by rw [w3]; exact ha1.2⟩
        · rcases hth with ⟨p1, p2, -⟩ | ⟨p1, p2⟩
          · exact Or.inl ⟨p2, p1⟩
          · refine Or.inr ⟨?_, ?_, ?_⟩
            · rw [p2]; omega
            · rw [p2, w4]; omega
            · rw [p1, p2]
              exact Int32.toInt_inj.mp (by rw [sp_subx (g + 1) 1 (by omega)]; omega)
        · rcases hth with ⟨-, -, p⟩ | ⟨-, p⟩
          · exact p
          · rw [p] at q
            have := i_eq q
            omega
      · rw [b6 12 k (by omega) (by omega) kT, b6 13 k (by omega) (by omega) kT, b6 14 k (by omega) (by omega) kT, nn (38 + 3 * k) (by omega) (by omega) (by omega), nn (38 + 3 * k + 1) (by omega) (by omega) (by omega), nn (38 + 3 * k + 2) (by omega) (by omega) (by omega)]
        exact m6 k hk (by rw [w7]; omega)
  · show RAc z' n4
    exact g0.2.2.sc (fun t j h1 h2 => b8 t 0 j (by omega)) (fun j _ => b8 15 0 j (by omega)) (fun t i j h1 h2 h3 => b8 t i j (by omega)) (nt _ _ _ (by decide)) (fun j => nt _ _ _ (by decide))
  · intro t i j h1 h2
    show z' t i j = vx t i j
    rw [b8 t i j (by omega)]; exact p2 t i j (by omega) h2
  · intro t i j h1 h2 h3
    show n4 t i j = vm t i j
    rw [nt t i j h2]; exact p3 t i j h1 h3
theorem r_say {vx vm : Mm} (hX : PW rgX vx) (hM : IM vm) (h : GB vx vm) (a1 a2 : Int32) : rel (g_X7_say vx a1 a2) (g_X8_say vm a1 a2) (actQ vx vm) := by
  have e9 : (9 : Int32).toInt = 9 := by decide
  have e0 : (0 : Int32).toInt = 0 := by decide
  have hw : (0 : Int) ≤ (vx 6 0 6).toInt ∧ (vx 6 0 6).toInt ≤ (6 : Int) := hX 6 0 6
  have ht : (0 : Int) ≤ (vx 10 0 7).toInt ∧ (vx 10 0 7).toInt ≤ (9 : Int) := hX 10 0 7
  have ew : vx 6 0 6 = vm 36 0 3 := h.1.2.2.1
  have eg : vx 6 0 7 = vm 36 0 4 := h.1.2.2.2.1
  have en : vx 10 0 4 = vm 36 0 5 := h.2.1.2.1
  have et : vx 10 0 6 = vm 36 0 6 := h.2.1.2.2.1
  have e7 : vx 10 0 7 = vm 36 0 7 := h.2.1.2.2.2.1
  rw [q_say]
  unfold g_X7_say
  rw [bx_word, bm_word vm (by rw [← ew]; exact hw.1), bx_hour, bm_hour, ← ew, tc_7, ← e7]
  refine rel_ite Iff.rfl (fun c1 => ?_) (fun _ => rel_some (actQ_same h))
  refine rel_ite Iff.rfl (fun c2 => ?_) (fun _ => rel_some (actQ_same h))
  by_cases c3 : vx 10 0 7 = 9
  · rw [if_pos c3, if_neg (fun q => by have := i_lt q; rw [c3] at this; omega)]
    exact rel_some (actQ_same h)
  have c3' : ¬ (vx 10 0 7).toInt = 9 := fun q => c3 (Int32.toInt_inj.mp (q.trans e9.symm))
  rw [if_neg c3, if_pos (Int32.lt_iff_toInt_lt.mpr (by omega))]
  have hR := RG5.of hX hM h.1 (by omega)
  obtain ⟨r1, r2, r3, r4, r5⟩ := id hR
  have s2 := sp_addx (vx 10 0 4) a2 (by omega)
  unfold g_X2_guardOn
  rw [q_rest vx _ _ r2.1]
  refine rel_letL (fun gx egx => ?_)
  have egx : gx = grd (vx 10 0 4 + a2) (vx 6 0 7) := egx
  have hg := grd_rg (n := vx 10 0 4 + a2) (g := vx 6 0 7) (by omega) r2.1
  rw [← egx] at hg
  refine rel_bindL (x_taken hR h.1 c1 c2 (d := 0) (by rw [e0]; omega)) (fun c ec => ?_)
  refine rel_note h (fun z w g0 p2 p3 => ?_)
  have zt : ∀ t j, 6 ≤ t → t ≤ 10 → z t 0 j = vx t 0 j := fun t j h1 h2 => p2 t 0 j (by omega) (by omega)
  have hRz : RG5 z := hR.eq (fun j => zt 6 j (by omega) (by omega)) (fun j => zt 10 j (by omega) (by omega))
  have w36 : ∀ j, w 36 0 j = vm 36 0 j := fun j => p3 36 0 j (by decide) (by omega)
  unfold g_X8_guardOn
  rw [tc_4, tc_5, w36, w36, ← eg, ← en]
  show rel _ (Option.bind (if vx 6 0 7 = 0 then none else some (grd (vx 10 0 4 + a2) (vx 6 0 7))) _) _
  rw [if_neg (nz (by omega)), ← egx]
  refine rel_letR (fun gm egm => ?_)
  rw [egm]
  have hmt := m_taken hRz g0 (w := a1) (hour := a2) (d := 0) (by rw [zt 6 6 (by omega) (by omega)]; exact c1) c2 (by rw [e0]; omega)
  rw [CT_eq zt, ← ec] at hmt
  refine rel_bindR hmt (fun r17 er17 => ?_)
  rw [er17]
  have hc : c = 0 ∨ c = 1 := by rw [ec]; exact cat_01 _ _ _ _ _ _ _ _
  have hm : (if c = 0 then sayT a1 gx 0 w else sayT a1 gx 1 w) = sayT a1 gx c w := by
    rcases hc with q | q
    · rw [q, if_pos rfl]
    · rw [q, if_neg (by decide)]
  rw [hm, q_there]
  unfold sayT
  rw [tc_7, tc_6, w36, ← e7]
  have cT := tcn (vx 10 0 7)
  obtain ⟨x1, -, -⟩ := ixm (x := vx 10 0 7) (k := Int32.toNatClampNeg (vx 10 0 7)) 38 38 (by decide) (by omega) (by omega) (by omega)
  refine rel_letR (fun x20 ex20 => ?_)
  rw [ex20, x1]
  refine rel_grdR _ (fun _ => rel_letR (fun w2 ew2 => ?_))
  have w26 : w2 36 0 6 = vx 10 0 6 := by rw [ew2, up3_j (by omega), w36]; exact et.symm
  have z6 : z 10 0 6 = vx 10 0 6 := zt 10 6 (by omega) (by omega)
  rw [w26, q_has, z6, ew2]
  obtain ⟨th, eth⟩ : ∃ t, t = (vx 10 0 6 >>> (gx &&& 31)) &&& 1 := ⟨_, rfl⟩
  rw [← eth]
  show rel (if th = 0 then _ else _) (if th = 0 then _ else _) _
  by_cases q : th = 0
  · rw [if_pos q, if_pos q]
    refine say_end hR g0 p2 p3 (by omega) hg hc c1 (Or.inl ⟨rfl, rfl, ?_⟩)
    rw [ec]
    unfold CT cat
    rw [Int32.add_zero, ← egx, ← eth, if_pos q]
  · rw [if_neg q, if_neg q]
    exact say_end hR g0 p2 p3 (by omega) hg hc c1 (Or.inr ⟨rfl, rfl⟩)
