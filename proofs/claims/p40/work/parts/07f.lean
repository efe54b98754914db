abbrev rmX8_cheap : Room := { frames := 4, cells := 0, slots := 0, locals := 101 }
def b_X8_cheap_L141 (rec48 : Int32 → Int32 → Int32 → Option (Int32)) (rec141 : Int32 → Int32 → Int32 → Int32 → Int32 → Int32 → Option (Int32)) (v : Mm) (a1 : Int32) (a2 : Int32) (a3 : Int32) (x4_141 : Int32) (x5_141 : Int32) (x6_141 : Int32) (x7_141 : Int32) (x8_141 : Int32) (x9_141 : Int32) : Option (Int32) := if 6 ≤ x9_141 then (if x8_141 = 0 then (rec48 x4_141 x5_141 (x6_141 + 1)) else (if x4_141 = (-1000000) then (rec48 x6_141 x7_141 (x6_141 + 1)) else (if x7_141 < x5_141 then (rec48 x6_141 x7_141 (x6_141 + 1)) else (if x7_141 = x5_141 then (Option.bind (g_X8_ones v x6_141) (fun r35 => Option.bind (g_X8_ones v x4_141) (fun r38 => if r38 ≤ r35 then (rec48 x4_141 x5_141 (x6_141 + 1)) else (rec48 x6_141 x7_141 (x6_141 + 1))))) else (rec48 x4_141 x5_141 (x6_141 + 1)))))) else (if x8_141 = 0 then (rec141 x4_141 x5_141 x6_141 x7_141 0 (x9_141 + 1)) else (Option.bind (g_X8_areIn v a1 x9_141 a2 ((v 36 0 (Int32.toNatClampNeg 6)) &&& (x6_141 ^^^ ((-1))))) (fun r47 => if r47 = 0 then (rec141 x4_141 x5_141 x6_141 x7_141 0 (x9_141 + 1)) else (rec141 x4_141 x5_141 x6_141 x7_141 1 (x9_141 + 1)))))
def g_X8_cheap_L141 (rec48 : Int32 → Int32 → Int32 → Option (Int32)) (v : Mm) (a1 : Int32) (a2 : Int32) (a3 : Int32) : Nat → Int32 → Int32 → Int32 → Int32 → Int32 → Int32 → Option (Int32)
  | 0 => fun _ _ _ _ _ _ => none
  | n + 1 => b_X8_cheap_L141 rec48 (g_X8_cheap_L141 rec48 v a1 a2 a3 n) v a1 a2 a3
def b_X8_cheap_L88 (rec48 : Int32 → Int32 → Int32 → Option (Int32)) (rec88 : Int32 → Int32 → Int32 → Int32 → Int32 → Int32 → Option (Int32)) (v : Mm) (a1 : Int32) (a2 : Int32) (a3 : Int32) (x4_88 : Int32) (x5_88 : Int32) (x6_88 : Int32) (x7_88 : Int32) (x8_88 : Int32) (x9_88 : Int32) : Option (Int32) := if v 36 0 (Int32.toNatClampNeg 4) ≤ x9_88 then (g_X8_cheap_L141 rec48 v a1 a2 a3 2000 x4_88 x5_88 x6_88 x7_88 x8_88 0) else (Option.bind (g_X8_has v x6_88 x9_88) (fun r22 => if r22 = 0 then (rec88 x4_88 x5_88 x6_88 (x7_88 + 0) x8_88 (x9_88 + 1)) else (if ((26 : Int32) + ((3 : Int32) * x9_88)) + 1 < 0 ∨ 65 ≤ Int32.toNatClampNeg (((26 : Int32) + ((3 : Int32) * x9_88)) + 1) then none else (Option.bind (some (x7_88 + (v 36 0 (Int32.toNatClampNeg (((26 : Int32) + ((3 : Int32) * x9_88)) + 1))))) (fun x26 => rec88 x4_88 x5_88 x6_88 x26 x8_88 (x9_88 + 1))))))
def g_X8_cheap_L88 (rec48 : Int32 → Int32 → Int32 → Option (Int32)) (v : Mm) (a1 : Int32) (a2 : Int32) (a3 : Int32) : Nat → Int32 → Int32 → Int32 → Int32 → Int32 → Int32 → Option (Int32)
  | 0 => fun _ _ _ _ _ _ => none
  | n + 1 => b_X8_cheap_L88 rec48 (g_X8_cheap_L88 rec48 v a1 a2 a3 n) v a1 a2 a3
def b_X8_cheap_L48  (rec48 : Int32 → Int32 → Int32 → Option (Int32)) (v : Mm) (a1 : Int32) (a2 : Int32) (a3 : Int32) (x4_48 : Int32) (x5_48 : Int32) (x6_48 : Int32) : Option (Int32) := if v 36 0 (Int32.toNatClampNeg 6) < x6_48 then (if a3 = 0 then (some x5_48) else (some x4_48)) else (if x6_48 &&& ((v 36 0 (Int32.toNatClampNeg 6)) ^^^ ((-1))) = 0 then (g_X8_cheap_L88 rec48 v a1 a2 a3 2000 x4_48 x5_48 x6_48 0 1 0) else (g_X8_cheap_L88 rec48 v a1 a2 a3 2000 x4_48 x5_48 x6_48 0 0 0))
def g_X8_cheap_L48  (v : Mm) (a1 : Int32) (a2 : Int32) (a3 : Int32) : Nat → Int32 → Int32 → Int32 → Option (Int32)
  | 0 => fun _ _ _ => none
  | n + 1 => b_X8_cheap_L48  (g_X8_cheap_L48  v a1 a2 a3 n) v a1 a2 a3
def g_X8_cheap (v : Mm) (a1 : Int32) (a2 : Int32) (a3 : Int32) : Option (Int32) := Option.bind (g_X8_isGate v) (fun r2 => if r2 = 0 then (some ((-1000002))) else (Option.bind (g_X8_areWords v a1) (fun r6 => if r6 = 0 then (some ((-1000001))) else (Option.bind (g_X8_isFar v a2) (fun r10 => if r10 = 0 then (some ((-1000001))) else (Option.bind (g_X8_in v a3 0 1) (fun r14 => if r14 = 0 then (some ((-1000001))) else (g_X8_cheap_L48  v a1 a2 a3 2000 ((-1000000)) ((-1000000)) 0))))))))
set_option maxHeartbeats 4000000 in
set_option maxRecDepth 100000 in
theorem d_X8_cheap (l : Launch) (E : kq_T) (Z : km_Z) (v : Mm) (a1 : Int32) (a2 : Int32) (a3 : Int32) (hs : g_X8_cheap v a1 a2 a3 ≠ none) : km_I l E Z cntM yX8_cheap wsX8_cheap rmX8_cheap [.ref (Z.1 30 0), .int a1, .int a2, .int a3] v (fun r v1 => g_X8_cheap v a1 a2 a3 = some r ∧ v = v1) := by
  refine km_goI (cc := cX8_cheap) (maxL := 10) (by decide) rfl (Nat.le_of_ble_eq_true rfl) rfl rfl rfl ?_
  intro p e s m below meth c A ls Q C hK hw hl hret
  obtain ⟨hx, hb, hml, hown, hts, -, -, -⟩ := C
  have hown : s.vm.findClass RX8 = some m.cls := hown
  have hl : lv_has ls 10 [(0, .ref (Z.1 30 0)), (1, .int a1), (2, .int a2), (3, .int a3)] := hl
  have hF := g_X8_cheap.eq_1 v a1 a2 a3
  have loop48 : ∀ (n48 : Nat) (x4_48 : Int32) (x5_48 : Int32) (x6_48 : Int32) (H : Heap) (locs : List Loc) (ls : Array Slot), g_X8_cheap v a1 a2 a3 = g_X8_cheap_L48  v a1 a2 a3 n48 x4_48 x5_48 x6_48 → km_w E A s.heap [] Z cntM v H locs → lv_has ls 10 [(0, .ref (Z.1 30 0)), (1, .int a1), (2, .int a2), (3, .int a3), (4, .int x4_48), (5, .int x5_48), (6, .int x6_48)] → W p l e rmX8_cheap s m [.ref (Z.1 30 0), .int a1, .int a2, .int a3].toArray below meth c H locs 0 0 Q (F0 m 48 ls []) := by
    intro n48
    induction n48 with
    | zero => intro x4_48 x5_48 x6_48 H locs ls hF hw hl; exact absurd (show g_X8_cheap v a1 a2 a3 = none from hF) hs
    | succ n48 ih48 =>
      intro x4_48 x5_48 x6_48 H locs ls hF hw hl
      have hF := hF.trans (b_X8_cheap_L48.eq_1  (g_X8_cheap_L48  v a1 a2 a3 n48) v a1 a2 a3 x4_48 x5_48 x6_48)
      have loop141 : ∀ (n141 : Nat) (x4_141 : Int32) (x5_141 : Int32) (x6_141 : Int32) (x7_141 : Int32) (x8_141 : Int32) (x9_141 : Int32) (H : Heap) (locs : List Loc) (ls : Array Slot), g_X8_cheap v a1 a2 a3 = g_X8_cheap_L141 (g_X8_cheap_L48  v a1 a2 a3 n48) v a1 a2 a3 n141 x4_141 x5_141 x6_141 x7_141 x8_141 x9_141 → km_w E A s.heap [] Z cntM v H locs → lv_has ls 10 [(0, .ref (Z.1 30 0)), (1, .int a1), (2, .int a2), (3, .int a3), (4, .int x4_141), (5, .int x5_141), (6, .int x6_141), (7, .int x7_141), (8, .int x8_141), (9, .int x9_141)] → W p l e rmX8_cheap s m [.ref (Z.1 30 0), .int a1, .int a2, .int a3].toArray below meth c H locs 0 0 Q (F0 m 141 ls []) := by
        intro n141
        induction n141 with
        | zero => intro x4_141 x5_141 x6_141 x7_141 x8_141 x9_141 H locs ls hF hw hl; exact absurd (show g_X8_cheap v a1 a2 a3 = none from hF) hs
        | succ n141 ih141 =>
          intro x4_141 x5_141 x6_141 x7_141 x8_141 x9_141 H locs ls hF hw hl
          have hF := hF.trans (b_X8_cheap_L141.eq_1 (g_X8_cheap_L48  v a1 a2 a3 n48) (g_X8_cheap_L141 (g_X8_cheap_L48  v a1 a2 a3 n48) v a1 a2 a3 n141) v a1 a2 a3 x4_141 x5_141 x6_141 x7_141 x8_141 x9_141)
          refine lv_iload hx hb dX8_cheap_141 (lv_at hl 9 rfl) ?_
          refine lv_bipush (v := 6) hx hb dX8_cheap_143 (by decide) ?_
          refine lv_icmp_ge (tgt := 189) hx hb dX8_cheap_145 (by decide) (fun c1 => ?_) (fun c1 => ?_)
          · skip
            have hF := hF.trans (if_pos c1)
            refine lv_iload hx hb dX8_cheap_189 (lv_at hl 8 rfl) ?_
            refine lv_if_eq (tgt := 232) hx hb dX8_cheap_191 (by decide) (fun c2 => ?_) (fun c2 => ?_)
            · skip
              have hF := hF.trans (if_pos c2)
              refine lv_iconst (v := 0) hx hb dX8_cheap_232 (by decide) ?_
              refine lv_istore (lv' := [(9, .int 0), (0, .ref (Z.1 30 0)), (1, .int a1), (2, .int a2), (3, .int a3), (4, .int x4_141), (5, .int x5_141), (6, .int x6_141), (7, .int x7_141), (8, .int x8_141)]) hx hb dX8_cheap_233 hl (by decide) rfl (fun ls hl => ?_)
              refine lv_iload hx hb dX8_cheap_235 (lv_at hl 0 rfl) ?_
              refine lv_if_eq (tgt := 245) hx hb dX8_cheap_237 (by decide) (fun c3 => ?_) (fun c3 => ?_)
              rotate_left
              · exact absurd (by decide) c3
              refine lv_iload hx hb dX8_cheap_245 (lv_at hl 5 rfl) ?_
              refine lv_istore (lv' := [(4, .int x4_141), (9, .int 0), (0, .ref (Z.1 30 0)), (1, .int a1), (2, .int a2), (3, .int a3), (5, .int x5_141), (6, .int x6_141), (7, .int x7_141), (8, .int x8_141)]) hx hb dX8_cheap_247 hl (by decide) rfl (fun ls hl => ?_)
              refine lv_iload hx hb dX8_cheap_249 (lv_at hl 1 rfl) ?_
              refine lv_if_eq (tgt := 259) hx hb dX8_cheap_251 (by decide) (fun c4 => ?_) (fun c4 => ?_)
              rotate_left
              · exact absurd (by decide) c4
              refine lv_iload hx hb dX8_cheap_259 (lv_at hl 6 rfl) ?_
              refine lv_istore (lv' := [(5, .int x5_141), (4, .int x4_141), (9, .int 0), (0, .ref (Z.1 30 0)), (1, .int a1), (2, .int a2), (3, .int a3), (6, .int x6_141), (7, .int x7_141), (8, .int x8_141)]) hx hb dX8_cheap_261 hl (by decide) rfl (fun ls hl => ?_)
              refine lv_iinc (v := x6_141 + 1) (lv' := [(6, .int (x6_141 + 1)), (5, .int x5_141), (4, .int x4_141), (9, .int 0), (0, .ref (Z.1 30 0)), (1, .int a1), (2, .int a2), (3, .int a3), (7, .int x7_141), (8, .int x8_141)]) hx hb dX8_cheap_263 hl (k := 7) rfl rfl (by decide) rfl (fun ls hl => ?_)
              refine lv_goto (tgt := 48) hx hb dX8_cheap_266 (by decide) ?_
              have hl := lv_sub (l' := [(0, .ref (Z.1 30 0)), (1, .int a1), (2, .int a2), (3, .int a3), (4, .int x4_141), (5, .int x5_141), (6, .int (x6_141 + 1))]) hl [4, 5, 6, 7, 2, 1, 0] rfl
              exact ih48 x4_141 x5_141 (x6_141 + 1) _ _ _ hF hw hl
            · skip
              have hF := hF.trans (if_neg c2)
              refine lv_iload hx hb dX8_cheap_194 (lv_at hl 4 rfl) ?_
              refine lv_ldc (v := (-1000000)) hx hb hown (hts (.constant RX8 50 (-1000000)) ow_X8_cheap_50) dX8_cheap_196 ?_
              refine lv_icmp_eq (tgt := 228) hx hb dX8_cheap_198 (by decide) (fun c5 => ?_) (fun c5 => ?_)
              · skip
                have hF := hF.trans (if_pos c5)
                refine lv_iconst (v := 1) hx hb dX8_cheap_228 (by decide) ?_
                refine lv_goto (tgt := 233) hx hb dX8_cheap_229 (by decide) ?_
                refine lv_istore (lv' := [(9, .int 1), (0, .ref (Z.1 30 0)), (1, .int a1), (2, .int a2), (3, .int a3), (4, .int x4_141), (5, .int x5_141), (6, .int x6_141), (7, .int x7_141), (8, .int x8_141)]) hx hb dX8_cheap_233 hl (by decide) rfl (fun ls hl => ?_)
                refine lv_iload hx hb dX8_cheap_235 (lv_at hl 0 rfl) ?_
                refine lv_if_eq (tgt := 245) hx hb dX8_cheap_237 (by decide) (fun c6 => ?_) (fun c6 => ?_)
                · exact absurd c6 (by decide)
                refine lv_iload hx hb dX8_cheap_240 (lv_at hl 7 rfl) ?_
                refine lv_goto (tgt := 247) hx hb dX8_cheap_242 (by decide) ?_
                refine lv_istore (lv' := [(4, .int x6_141), (9, .int 1), (0, .ref (Z.1 30 0)), (1, .int a1), (2, .int a2), (3, .int a3), (5, .int x5_141), (6, .int x6_141), (7, .int x7_141), (8, .int x8_141)]) hx hb dX8_cheap_247 hl (by decide) rfl (fun ls hl => ?_)
                refine lv_iload hx hb dX8_cheap_249 (lv_at hl 1 rfl) ?_
                refine lv_if_eq (tgt := 259) hx hb dX8_cheap_251 (by decide) (fun c7 => ?_) (fun c7 => ?_)
                · exact absurd c7 (by decide)
                refine lv_iload hx hb dX8_cheap_254 (lv_at hl 8 rfl) ?_
                refine lv_goto (tgt := 261) hx hb dX8_cheap_256 (by decide) ?_
                refine lv_istore (lv' := [(5, .int x7_141), (4, .int x6_141), (9, .int 1), (0, .ref (Z.1 30 0)), (1, .int a1), (2, .int a2), (3, .int a3), (6, .int x6_141), (7, .int x7_141), (8, .int x8_141)]) hx hb dX8_cheap_261 hl (by decide) rfl (fun ls hl => ?_)
                refine lv_iinc (v := x6_141 + 1) (lv' := [(6, .int (x6_141 + 1)), (5, .int x7_141), (4, .int x6_141), (9, .int 1), (0, .ref (Z.1 30 0)), (1, .int a1), (2, .int a2), (3, .int a3), (7, .int x7_141), (8, .int x8_141)]) hx hb dX8_cheap_263 hl (k := 7) rfl rfl (by decide) rfl (fun ls hl => ?_)
                refine lv_goto (tgt := 48) hx hb dX8_cheap_266 (by decide) ?_
                have hl := lv_sub (l' := [(0, .ref (Z.1 30 0)), (1, .int a1), (2, .int a2), (3, .int a3), (4, .int x6_141), (5, .int x7_141), (6, .int (x6_141 + 1))]) hl [4, 5, 6, 7, 2, 1, 0] rfl
                exact ih48 x6_141 x7_141 (x6_141 + 1) _ _ _ hF hw hl
              · skip
                have hF := hF.trans (if_neg c5)
                refine lv_iload hx hb dX8_cheap_201 (lv_at hl 7 rfl) ?_
                refine lv_iload hx hb dX8_cheap_203 (lv_at hl 5 rfl) ?_
                refine lv_icmp_lt (tgt := 228) hx hb dX8_cheap_205 (by decide) (fun c8 => ?_) (fun c8 => ?_)
                · skip
                  have hF := hF.trans (if_pos c8)
                  refine lv_iconst (v := 1) hx hb dX8_cheap_228 (by decide) ?_
                  refine lv_goto (tgt := 233) hx hb dX8_cheap_229 (by decide) ?_
                  refine lv_istore (lv' := [(9, .int 1), (0, .ref (Z.1 30 0)), (1, .int a1), (2, .int a2), (3, .int a3), (4, .int x4_141), (5, .int x5_141), (6, .int x6_141), (7, .int x7_141), (8, .int x8_141)]) hx hb dX8_cheap_233 hl (by decide) rfl (fun ls hl => ?_)
                  refine lv_iload hx hb dX8_cheap_235 (lv_at hl 0 rfl) ?_
                  refine lv_if_eq (tgt := 245) hx hb dX8_cheap_237 (by decide) (fun c9 => ?_) (fun c9 => ?_)
                  · exact absurd c9 (by decide)
                  refine lv_iload hx hb dX8_cheap_240 (lv_at hl 7 rfl) ?_
                  refine lv_goto (tgt := 247) hx hb dX8_cheap_242 (by decide) ?_
                  refine lv_istore (lv' := [(4, .int x6_141), (9, .int 1), (0, .ref (Z.1 30 0)), (1, .int a1), (2, .int a2), (3, .int a3), (5, .int x5_141), (6, .int x6_141), (7, .int x7_141), (8, .int x8_141)]) hx hb dX8_cheap_247 hl (by decide) rfl (fun ls hl => ?_)
                  refine lv_iload hx hb dX8_cheap_249 (lv_at hl 1 rfl) ?_
                  refine lv_if_eq (tgt := 259) hx hb dX8_cheap_251 (by decide) (fun c10 => ?_) (fun c10 => ?_)
                  · exact absurd c10 (by decide)
                  refine lv_iload hx hb dX8_cheap_254 (lv_at hl 8 rfl) ?_
                  refine lv_goto (tgt := 261) hx hb dX8_cheap_256 (by decide) ?_
                  refine lv_istore (lv' := [(5, .int x7_141), (4, .int x6_141), (9, .int 1), (0, .ref (Z.1 30 0)), (1, .int a1), (2, .int a2), (3, .int a3), (6, .int x6_141), (7, .int x7_141), (8, .int x8_141)]) hx hb dX8_cheap_261 hl (by decide) rfl (fun ls hl => ?_)
                  refine lv_iinc (v := x6_141 + 1) (lv' := [(6, .int (x6_141 + 1)), (5, .int x7_141), (4, .int x6_141), (9, .int 1), (0, .ref (Z.1 30 0)), (1, .int a1), (2, .int a2), (3, .int a3), (7, .int x7_141), (8, .int x8_141)]) hx hb dX8_cheap_263 hl (k := 7) rfl rfl (by decide) rfl (fun ls hl => ?_)
                  refine lv_goto (tgt := 48) hx hb dX8_cheap_266 (by decide) ?_
                  have hl := lv_sub (l' := [(0, .ref (Z.1 30 0)), (1, .int a1), (2, .int a2), (3, .int a3), (4, .int x6_141), (5, .int x7_141), (6, .int (x6_141 + 1))]) hl [4, 5, 6, 7, 2, 1, 0] rfl
                  exact ih48 x6_141 x7_141 (x6_141 + 1) _ _ _ hF hw hl
                · skip
                  have hF := hF.trans (if_neg c8)
                  refine lv_iload hx hb dX8_cheap_208 (lv_at hl 7 rfl) ?_
                  refine lv_iload hx hb dX8_cheap_210 (lv_at hl 5 rfl) ?_
                  refine lv_icmp_ne (tgt := 232) hx hb dX8_cheap_212 (by decide) (fun c11 => ?_) (fun c11 => ?_)
                  · skip
                    have hF := hF.trans (if_neg c11)
                    refine lv_iconst (v := 0) hx hb dX8_cheap_232 (by decide) ?_
                    refine lv_istore (lv' := [(9, .int 0), (0, .ref (Z.1 30 0)), (1, .int a1), (2, .int a2), (3, .int a3), (4, .int x4_141), (5, .int x5_141), (6, .int x6_141), (7, .int x7_141), (8, .int x8_141)]) hx hb dX8_cheap_233 hl (by decide) rfl (fun ls hl => ?_)
                    refine lv_iload hx hb dX8_cheap_235 (lv_at hl 0 rfl) ?_
                    refine lv_if_eq (tgt := 245) hx hb dX8_cheap_237 (by decide) (fun c12 => ?_) (fun c12 => ?_)
                    rotate_left
                    · exact absurd (by decide) c12
                    refine lv_iload hx hb dX8_cheap_245 (lv_at hl 5 rfl) ?_
                    refine lv_istore (lv' := [(4, .int x4_141), (9, .int 0), (0, .ref (Z.1 30 0)), (1, .int a1), (2, .int a2), (3, .int a3), (5, .int x5_141), (6, .int x6_141), (7, .int x7_141), (8, .int x8_141)]) hx hb dX8_cheap_247 hl (by decide) rfl (fun ls hl => ?_)
                    refine lv_iload hx hb dX8_cheap_249 (lv_at hl 1 rfl) ?_
                    refine lv_if_eq (tgt := 259) hx hb dX8_cheap_251 (by decide) (fun c13 => ?_) (fun c13 => ?_)
                    rotate_left
                    · exact absurd (by decide) c13
                    refine lv_iload hx hb dX8_cheap_259 (lv_at hl 6 rfl) ?_
                    refine lv_istore (lv' := [(5, .int x5_141), (4, .int x4_141), (9, .int 0), (0, .ref (Z.1 30 0)), (1, .int a1), (2, .int a2), (3, .int a3), (6, .int x6_141), (7, .int x7_141), (8, .int x8_141)]) hx hb dX8_cheap_261 hl (by decide) rfl (fun ls hl => ?_)
                    refine lv_iinc (v := x6_141 + 1) (lv' := [(6, .int (x6_141 + 1)), (5, .int x5_141), (4, .int x4_141), (9, .int 0), (0, .ref (Z.1 30 0)), (1, .int a1), (2, .int a2), (3, .int a3), (7, .int x7_141), (8, .int x8_141)]) hx hb dX8_cheap_263 hl (k := 7) rfl rfl (by decide) rfl (fun ls hl => ?_)
                    refine lv_goto (tgt := 48) hx hb dX8_cheap_266 (by decide) ?_
                    have hl := lv_sub (l' := [(0, .ref (Z.1 30 0)), (1, .int a1), (2, .int a2), (3, .int a3), (4, .int x4_141), (5, .int x5_141), (6, .int (x6_141 + 1))]) hl [4, 5, 6, 7, 2, 1, 0] rfl
                    exact ih48 x4_141 x5_141 (x6_141 + 1) _ _ _ hF hw hl
                  · skip
                    have hF := hF.trans (if_pos c11)
                    refine lv_iload hx hb dX8_cheap_215 (lv_at hl 6 rfl) ?_
                    have hs14 : g_X8_ones v x6_141 ≠ none := fun q => hs (hF.trans (kb_n q _))
                    refine km_cS (As := [.int x6_141]) (rest := []) (n := 1) ⟨hx, hb, hml, hown, hts⟩ (d_X8_ones l E Z v x6_141 hs14) gX8_cheap_X8_ones rfl hV_X8_ones ⟨Nat.le_of_ble_eq_true rfl, Nat.le_of_ble_eq_true rfl⟩ hK hw rfl hl.1 rfl (Nat.le_of_ble_eq_true rfl) dX8_cheap_217 rfl rfl (fun r15 v16 H locs hp hw => ?_)
                    obtain ⟨hp, rfl⟩ := hp
                    have hF := hF.trans (kb_some hp _)
                    refine lv_iload hx hb dX8_cheap_220 (lv_at hl 4 rfl) ?_
                    have hs17 : g_X8_ones v x4_141 ≠ none := fun q => hs (hF.trans (kb_n q _))
                    refine km_cS (As := [.int x4_141]) (rest := [.int r15]) (n := 1) ⟨hx, hb, hml, hown, hts⟩ (d_X8_ones l E Z v x4_141 hs17) gX8_cheap_X8_ones rfl hV_X8_ones ⟨Nat.le_of_ble_eq_true rfl, Nat.le_of_ble_eq_true rfl⟩ hK hw rfl hl.1 rfl (Nat.le_of_ble_eq_true rfl) dX8_cheap_222 rfl rfl (fun r18 v19 H locs hp hw => ?_)
                    obtain ⟨hp, rfl⟩ := hp
                    have hF := hF.trans (kb_some hp _)
                    refine lv_icmp_ge (tgt := 232) hx hb dX8_cheap_225 (by decide) (fun c20 => ?_) (fun c20 => ?_)
                    · skip
                      have hF := hF.trans (if_pos c20)
                      refine lv_iconst (v := 0) hx hb dX8_cheap_232 (by decide) ?_
                      refine lv_istore (lv' := [(9, .int 0), (0, .ref (Z.1 30 0)), (1, .int a1), (2, .int a2), (3, .int a3), (4, .int x4_141), (5, .int x5_141), (6, .int x6_141), (7, .int x7_141), (8, .int x8_141)]) hx hb dX8_cheap_233 hl (by decide) rfl (fun ls hl => ?_)
                      refine lv_iload hx hb dX8_cheap_235 (lv_at hl 0 rfl) ?_
                      refine lv_if_eq (tgt := 245) hx hb dX8_cheap_237 (by decide) (fun c21 => ?_) (fun c21 => ?_)
                      rotate_left
                      · exact absurd (by decide) c21
                      refine lv_iload hx hb dX8_cheap_245 (lv_at hl 5 rfl) ?_
                      refine lv_istore (lv' := [(4, .int x4_141), (9, .int 0), (0, .ref (Z.1 30 0)), (1, .int a1), (2, .int a2), (3, .int a3), (5, .int x5_141), (6, .int x6_141), (7, .int x7_141), (8, .int x8_141)]) hx hb dX8_cheap_247 hl (by decide) rfl (fun ls hl => ?_)
                      refine lv_iload hx hb dX8_cheap_249 (lv_at hl 1 rfl) ?_
                      refine lv_if_eq (tgt := 259) hx hb dX8_cheap_251 (by decide) (fun c22 => ?_) (fun c22 => ?_)
                      rotate_left
                      · exact absurd (by decide) c22
                      refine lv_iload hx hb dX8_cheap_259 (lv_at hl 6 rfl) ?_
                      refine lv_istore (lv' := [(5, .int x5_141), (4, .int x4_141), (9, .int 0), (0, .ref (Z.1 30 0)), (1, .int a1), (2, .int a2), (3, .int a3), (6, .int x6_141), (7, .int x7_141), (8, .int x8_141)]) hx hb dX8_cheap_261 hl (by decide) rfl (fun ls hl => ?_)
                      refine lv_iinc (v := x6_141 + 1) (lv' := [(6, .int (x6_141 + 1)), (5, .int x5_141), (4, .int x4_141), (9, .int 0), (0, .ref (Z.1 30 0)), (1, .int a1), (2, .int a2), (3, .int a3), (7, .int x7_141), (8, .int x8_141)]) hx hb dX8_cheap_263 hl (k := 7) rfl rfl (by decide) rfl (fun ls hl => ?_)
                      refine lv_goto (tgt := 48) hx hb dX8_cheap_266 (by decide) ?_
                      have hl := lv_sub (l' := [(0, .ref (Z.1 30 0)), (1, .int a1), (2, .int a2), (3, .int a3), (4, .int x4_141), (5, .int x5_141), (6, .int (x6_141 + 1))]) hl [4, 5, 6, 7, 2, 1, 0] rfl
                      exact ih48 x4_141 x5_141 (x6_141 + 1) _ _ _ hF hw hl
                    · skip
                      have hF := hF.trans (if_neg c20)
                      refine lv_iconst (v := 1) hx hb dX8_cheap_228 (by decide) ?_
                      refine lv_goto (tgt := 233) hx hb dX8_cheap_229 (by decide) ?_
                      refine lv_istore (lv' := [(9, .int 1), (0, .ref (Z.1 30 0)), (1, .int a1), (2, .int a2), (3, .int a3), (4, .int x4_141), (5, .int x5_141), (6, .int x6_141), (7, .int x7_141), (8, .int x8_141)]) hx hb dX8_cheap_233 hl (by decide) rfl (fun ls hl => ?_)
                      refine lv_iload hx hb dX8_cheap_235 (lv_at hl 0 rfl) ?_
                      refine lv_if_eq (tgt := 245) hx hb dX8_cheap_237 (by decide) (fun c23 => ?_) (fun c23 => ?_)
                      · exact absurd c23 (by decide)
                      refine lv_iload hx hb dX8_cheap_240 (lv_at hl 7 rfl) ?_
                      refine lv_goto (tgt := 247) hx hb dX8_cheap_242 (by decide) ?_
                      refine lv_istore (lv' := [(4, .int x6_141), (9, .int 1), (0, .ref (Z.1 30 0)), (1, .int a1), (2, .int a2), (3, .int a3), (5, .int x5_141), (6, .int x6_141), (7, .int x7_141), (8, .int x8_141)]) hx hb dX8_cheap_247 hl (by decide) rfl (fun ls hl => ?_)
                      refine lv_iload hx hb dX8_cheap_249 (lv_at hl 1 rfl) ?_
                      refine lv_if_eq (tgt := 259) hx hb dX8_cheap_251 (by decide) (fun c24 => ?_) (fun c24 => ?_)
                      · exact absurd c24 (by decide)
                      refine lv_iload hx hb dX8_cheap_254 (lv_at hl 8 rfl) ?_
                      refine lv_goto (tgt := 261) hx hb dX8_cheap_256 (by decide) ?_
                      refine lv_istore (lv' := [(5, .int x7_141), (4, .int x6_141), (9, .int 1), (0, .ref (Z.1 30 0)), (1, .int a1), (2, .int a2), (3, .int a3), (6, .int x6_141), (7, .int x7_141), (8, .int x8_141)]) hx hb dX8_cheap_261 hl (by decide) rfl (fun ls hl => ?_)
                      refine lv_iinc (v := x6_141 + 1) (lv' := [(6, .int (x6_141 + 1)), (5, .int x7_141), (4, .int x6_141), (9, .int 1), (0, .ref (Z.1 30 0)), (1, .int a1), (2, .int a2), (3, .int a3), (7, .int x7_141), (8, .int x8_141)]) hx hb dX8_cheap_263 hl (k := 7) rfl rfl (by decide) rfl (fun ls hl => ?_)
                      refine lv_goto (tgt := 48) hx hb dX8_cheap_266 (by decide) ?_
                      have hl := lv_sub (l' := [(0, .ref (Z.1 30 0)), (1, .int a1), (2, .int a2), (3, .int a3), (4, .int x6_141), (5, .int x7_141), (6, .int (x6_141 + 1))]) hl [4, 5, 6, 7, 2, 1, 0] rfl
                      exact ih48 x6_141 x7_141 (x6_141 + 1) _ _ _ hF hw hl
          · skip
            have hF := hF.trans (if_neg c1)
            refine lv_iload hx hb dX8_cheap_148 (lv_at hl 8 rfl) ?_
            refine lv_if_eq (tgt := 180) hx hb dX8_cheap_150 (by decide) (fun c25 => ?_) (fun c25 => ?_)
            · skip
              have hF := hF.trans (if_pos c25)
              refine lv_iconst (v := 0) hx hb dX8_cheap_180 (by decide) ?_
              refine lv_istore (lv' := [(8, .int 0), (0, .ref (Z.1 30 0)), (1, .int a1), (2, .int a2), (3, .int a3), (4, .int x4_141), (5, .int x5_141), (6, .int x6_141), (7, .int x7_141), (9, .int x9_141)]) hx hb dX8_cheap_181 hl (by decide) rfl (fun ls hl => ?_)
              refine lv_iinc (v := x9_141 + 1) (lv' := [(9, .int (x9_141 + 1)), (8, .int 0), (0, .ref (Z.1 30 0)), (1, .int a1), (2, .int a2), (3, .int a3), (4, .int x4_141), (5, .int x5_141), (6, .int x6_141), (7, .int x7_141)]) hx hb dX8_cheap_183 hl (k := 9) rfl rfl (by decide) rfl (fun ls hl => ?_)
              refine lv_goto (tgt := 141) hx hb dX8_cheap_186 (by decide) ?_
              have hl := lv_sub (l' := [(0, .ref (Z.1 30 0)), (1, .int a1), (2, .int a2), (3, .int a3), (4, .int x4_141), (5, .int x5_141), (6, .int x6_141), (7, .int x7_141), (8, .int 0), (9, .int (x9_141 + 1))]) hl [2, 3, 4, 5, 6, 7, 8, 9, 1, 0] rfl
              exact ih141 x4_141 x5_141 x6_141 x7_141 0 (x9_141 + 1) _ _ _ hF hw hl
            · skip
              have hF := hF.trans (if_neg c25)
              refine lv_aload_n hx hb dX8_cheap_153 rfl (lv_at hl 0 rfl) ?_
              refine lv_iload_n hx hb dX8_cheap_154 rfl (lv_at hl 1 rfl) ?_
              refine lv_iload hx hb dX8_cheap_155 (lv_at hl 9 rfl) ?_
              refine lv_iload_n hx hb dX8_cheap_157 rfl (lv_at hl 2 rfl) ?_
              refine lv_aload_n hx hb dX8_cheap_158 rfl (lv_at hl 0 rfl) ?_
              refine km_get (ci := 8) (C := RX8) (T := TX8) (N := 23) (t := 30) (i := 0) hx hb hts fi_X8_cheap_X8 hown hK hw (by decide) (by decide) rfl rfl 13 (by decide) (hts (.fieldLink RX8 25 "WrongWordModel" "now" "[I") ow_X8_cheap_25) rfl dX8_cheap_159 ?_
              refine lv_bipush (v := 6) hx hb dX8_cheap_162 (by decide) ?_
              refine km_iald (t := 36) (i := 0) hx hb hK hw (by decide) (by decide) rfl (by unfold vp_in; decide) dX8_cheap_164 ?_
              refine lv_iload hx hb dX8_cheap_165 (lv_at hl 6 rfl) ?_
              refine lv_iconst (v := (-1)) hx hb dX8_cheap_167 (by decide) ?_
              refine lv_ixor hx hb dX8_cheap_168 ?_
              refine lv_iand hx hb dX8_cheap_169 ?_
              have hs26 : g_X8_areIn v a1 x9_141 a2 ((v 36 0 (Int32.toNatClampNeg 6)) &&& (x6_141 ^^^ ((-1)))) ≠ none := fun q => hs (hF.trans (kb_n q _))
              refine km_cI (As := [.int a1, .int x9_141, .int a2, .int ((v 36 0 (Int32.toNatClampNeg 6)) &&& (x6_141 ^^^ ((-1))))]) (rest := []) (n := 4) (q := (RX8, TX8, 23)) (ci := 8) (t := 30) (i := 0) ⟨hx, hb, hml, hown, hts⟩ (d_X8_areIn l E Z v a1 x9_141 a2 ((v 36 0 (Int32.toNatClampNeg 6)) &&& (x6_141 ^^^ ((-1)))) hs26) gX8_cheap_X8_areIn rfl hV_X8_areIn ⟨Nat.le_of_ble_eq_true rfl, Nat.le_of_ble_eq_true rfl⟩ hK hw (by decide) (by decide) rfl rfl rfl hl.1 rfl (Nat.le_of_ble_eq_true rfl) dX8_cheap_170 rfl rfl (fun r27 v28 H locs hp hw => ?_)
              obtain ⟨hp, hzr27⟩ := hp
              obtain ⟨hp, rfl⟩ := hp
              have hF := hF.trans (kb_some hp _)
              refine lv_if_eq (tgt := 180) hx hb dX8_cheap_173 (by decide) (fun c29 => ?_) (fun c29 => ?_)
              · skip
                have hF := hF.trans (if_pos c29)
                refine lv_iconst (v := 0) hx hb dX8_cheap_180 (by decide) ?_
                refine lv_istore (lv' := [(8, .int 0), (0, .ref (Z.1 30 0)), (1, .int a1), (2, .int a2), (3, .int a3), (4, .int x4_141), (5, .int x5_141), (6, .int x6_141), (7, .int x7_141), (9, .int x9_141)]) hx hb dX8_cheap_181 hl (by decide) rfl (fun ls hl => ?_)
                refine lv_iinc (v := x9_141 + 1) (lv' := [(9, .int (x9_141 + 1)), (8, .int 0), (0, .ref (Z.1 30 0)), (1, .int a1), (2, .int a2), (3, .int a3), (4, .int x4_141), (5, .int x5_141), (6, .int x6_141), (7, .int x7_141)]) hx hb dX8_cheap_183 hl (k := 9) rfl rfl (by decide) rfl (fun ls hl => ?_)
                refine lv_goto (tgt := 141) hx hb dX8_cheap_186 (by decide) ?_
                have hl := lv_sub (l' := [(0, .ref (Z.1 30 0)), (1, .int a1), (2, .int a2), (3, .int a3), (4, .int x4_141), (5, .int x5_141), (6, .int x6_141), (7, .int x7_141), (8, .int 0), (9, .int (x9_141 + 1))]) hl [2, 3, 4, 5, 6, 7, 8, 9, 1, 0] rfl
                exact ih141 x4_141 x5_141 x6_141 x7_141 0 (x9_141 + 1) _ _ _ hF hw hl
              · skip
                have hF := hF.trans (if_neg c29)
                refine lv_iconst (v := 1) hx hb dX8_cheap_176 (by decide) ?_
                refine lv_goto (tgt := 181) hx hb dX8_cheap_177 (by decide) ?_
                refine lv_istore (lv' := [(8, .int 1), (0, .ref (Z.1 30 0)), (1, .int a1), (2, .int a2), (3, .int a3), (4, .int x4_141), (5, .int x5_141), (6, .int x6_141), (7, .int x7_141), (9, .int x9_141)]) hx hb dX8_cheap_181 hl (by decide) rfl (fun ls hl => ?_)
                refine lv_iinc (v := x9_141 + 1) (lv' := [(9, .int (x9_141 + 1)), (8, .int 1), (0, .ref (Z.1 30 0)), (1, .int a1), (2, .int a2), (3, .int a3), (4, .int x4_141), (5, .int x5_141), (6, .int x6_141), (7, .int x7_141)]) hx hb dX8_cheap_183 hl (k := 9) rfl rfl (by decide) rfl (fun ls hl => ?_)
                refine lv_goto (tgt := 141) hx hb dX8_cheap_186 (by decide) ?_
                have hl := lv_sub (l' := [(0, .ref (Z.1 30 0)), (1, .int a1), (2, .int a2), (3, .int a3), (4, .int x4_141), (5, .int x5_141), (6, .int x6_141), (7, .int x7_141), (8, .int 1), (9, .int (x9_141 + 1))]) hl [2, 3, 4, 5, 6, 7, 8, 9, 1, 0] rfl
                exact ih141 x4_141 x5_141 x6_141 x7_141 1 (x9_141 + 1) _ _ _ hF hw hl
      have loop88 : ∀ (n88 : Nat) (x4_88 : Int32) (x5_88 : Int32) (x6_88 : Int32) (x7_88 : Int32) (x8_88 : Int32) (x9_88 : Int32) (H : Heap) (locs : List Loc) (ls : Array Slot), g_X8_cheap v a1 a2 a3 = g_X8_cheap_L88 (g_X8_cheap_L48  v a1 a2 a3 n48) v a1 a2 a3 n88 x4_88 x5_88 x6_88 x7_88 x8_88 x9_88 → km_w E A s.heap [] Z cntM v H locs → lv_has ls 10 [(0, .ref (Z.1 30 0)), (1, .int a1), (2, .int a2), (3, .int a3), (4, .int x4_88), (5, .int x5_88), (6, .int x6_88), (7, .int x7_88), (8, .int x8_88), (9, .int x9_88)] → W p l e rmX8_cheap s m [.ref (Z.1 30 0), .int a1, .int a2, .int a3].toArray below meth c H locs 0 0 Q (F0 m 88 ls []) := by
        intro n88
        induction n88 with
        | zero => intro x4_88 x5_88 x6_88 x7_88 x8_88 x9_88 H locs ls hF hw hl; exact absurd (show g_X8_cheap v a1 a2 a3 = none from hF) hs
        | succ n88 ih88 =>
          intro x4_88 x5_88 x6_88 x7_88 x8_88 x9_88 H locs ls hF hw hl
          have hF := hF.trans (b_X8_cheap_L88.eq_1 (g_X8_cheap_L48  v a1 a2 a3 n48) (g_X8_cheap_L88 (g_X8_cheap_L48  v a1 a2 a3 n48) v a1 a2 a3 n88) v a1 a2 a3 x4_88 x5_88 x6_88 x7_88 x8_88 x9_88)
          refine lv_iload hx hb dX8_cheap_88 (lv_at hl 9 rfl) ?_
          refine lv_aload_n hx hb dX8_cheap_90 rfl (lv_at hl 0 rfl) ?_
          refine km_get (ci := 8) (C := RX8) (T := TX8) (N := 23) (t := 30) (i := 0) hx hb hts fi_X8_cheap_X8 hown hK hw (by decide) (by decide) rfl rfl 13 (by decide) (hts (.fieldLink RX8 25 "WrongWordModel" "now" "[I") ow_X8_cheap_25) rfl dX8_cheap_91 ?_
          refine lv_iconst (v := 4) hx hb dX8_cheap_94 (by decide) ?_
          refine km_iald (t := 36) (i := 0) hx hb hK hw (by decide) (by decide) rfl (by unfold vp_in; decide) dX8_cheap_95 ?_
          refine lv_icmp_ge (tgt := 138) hx hb dX8_cheap_96 (by decide) (fun c30 => ?_) (fun c30 => ?_)
          · skip
            have hF := hF.trans (if_pos c30)
            refine lv_iconst (v := 0) hx hb dX8_cheap_138 (by decide) ?_
            refine lv_istore (lv' := [(9, .int 0), (0, .ref (Z.1 30 0)), (1, .int a1), (2, .int a2), (3, .int a3), (4, .int x4_88), (5, .int x5_88), (6, .int x6_88), (7, .int x7_88), (8, .int x8_88)]) hx hb dX8_cheap_139 hl (by decide) rfl (fun ls hl => ?_)
            have hl := lv_sub (l' := [(0, .ref (Z.1 30 0)), (1, .int a1), (2, .int a2), (3, .int a3), (4, .int x4_88), (5, .int x5_88), (6, .int x6_88), (7, .int x7_88), (8, .int x8_88), (9, .int 0)]) hl [1, 2, 3, 4, 5, 6, 7, 8, 9, 0] rfl
            exact loop141 2000 x4_88 x5_88 x6_88 x7_88 x8_88 0 _ _ _ hF hw hl
          · skip
            have hF := hF.trans (if_neg c30)
            refine lv_iload hx hb dX8_cheap_99 (lv_at hl 7 rfl) ?_
            refine lv_iload hx hb dX8_cheap_101 (lv_at hl 6 rfl) ?_
            refine lv_iload hx hb dX8_cheap_103 (lv_at hl 9 rfl) ?_
            have hs31 : g_X8_has v x6_88 x9_88 ≠ none := fun q => hs (hF.trans (kb_n q _))
            refine km_cS (As := [.int x6_88, .int x9_88]) (rest := [.int x7_88]) (n := 2) ⟨hx, hb, hml, hown, hts⟩ (d_X8_has l E Z v x6_88 x9_88 hs31) gX8_cheap_X8_has rfl hV_X8_has ⟨Nat.le_of_ble_eq_true rfl, Nat.le_of_ble_eq_true rfl⟩ hK hw rfl hl.1 rfl (Nat.le_of_ble_eq_true rfl) dX8_cheap_105 rfl rfl (fun r32 v33 H locs hp hw => ?_)
            obtain ⟨hp, hzr32⟩ := hp
            obtain ⟨hp, rfl⟩ := hp
            have hF := hF.trans (kb_some hp _)
            refine lv_if_eq (tgt := 128) hx hb dX8_cheap_108 (by decide) (fun c34 => ?_) (fun c34 => ?_)
            · skip
              have hF := hF.trans (if_pos c34)
              refine lv_iconst (v := 0) hx hb dX8_cheap_128 (by decide) ?_
              refine lv_iadd hx hb dX8_cheap_129 ?_
              refine lv_istore (lv' := [(7, .int (x7_88 + 0)), (0, .ref (Z.1 30 0)), (1, .int a1), (2, .int a2), (3, .int a3), (4, .int x4_88), (5, .int x5_88), (6, .int x6_88), (8, .int x8_88), (9, .int x9_88)]) hx hb dX8_cheap_130 hl (by decide) rfl (fun ls hl => ?_)
              refine lv_iinc (v := x9_88 + 1) (lv' := [(9, .int (x9_88 + 1)), (7, .int (x7_88 + 0)), (0, .ref (Z.1 30 0)), (1, .int a1), (2, .int a2), (3, .int a3), (4, .int x4_88), (5, .int x5_88), (6, .int x6_88), (8, .int x8_88)]) hx hb dX8_cheap_132 hl (k := 9) rfl rfl (by decide) rfl (fun ls hl => ?_)
              refine lv_goto (tgt := 88) hx hb dX8_cheap_135 (by decide) ?_
              have hl := lv_sub (l' := [(0, .ref (Z.1 30 0)), (1, .int a1), (2, .int a2), (3, .int a3), (4, .int x4_88), (5, .int x5_88), (6, .int x6_88), (7, .int (x7_88 + 0)), (8, .int x8_88), (9, .int (x9_88 + 1))]) hl [2, 3, 4, 5, 6, 7, 8, 1, 9, 0] rfl
              exact ih88 x4_88 x5_88 x6_88 (x7_88 + 0) x8_88 (x9_88 + 1) _ _ _ hF hw hl
            · skip
              have hF := hF.trans (if_neg c34)
              refine lv_aload_n hx hb dX8_cheap_111 rfl (lv_at hl 0 rfl) ?_
              refine km_get (ci := 8) (C := RX8) (T := TX8) (N := 23) (t := 30) (i := 0) hx hb hts fi_X8_cheap_X8 hown hK hw (by decide) (by decide) rfl rfl 13 (by decide) (hts (.fieldLink RX8 25 "WrongWordModel" "now" "[I") ow_X8_cheap_25) rfl dX8_cheap_112 ?_
              refine lv_bipush (v := 26) hx hb dX8_cheap_115 (by decide) ?_
              refine lv_iconst (v := 3) hx hb dX8_cheap_117 (by decide) ?_
              refine lv_iload hx hb dX8_cheap_118 (lv_at hl 9 rfl) ?_
              refine lv_imul hx hb dX8_cheap_120 ?_
              refine lv_iadd hx hb dX8_cheap_121 ?_
              refine lv_iconst (v := 1) hx hb dX8_cheap_122 (by decide) ?_
              refine lv_iadd hx hb dX8_cheap_123 ?_
              have hb35 : ¬ (((26 : Int32) + ((3 : Int32) * x9_88)) + 1 < 0 ∨ 65 ≤ Int32.toNatClampNeg (((26 : Int32) + ((3 : Int32) * x9_88)) + 1)) := fun q => hs (hF.trans (if_pos q))
              have hF := hF.trans (if_neg hb35)
              refine km_iald (t := 36) (i := 0) hx hb hK hw (by decide) (by decide) rfl hb35 dX8_cheap_124 ?_
              refine lv_goto (tgt := 129) hx hb dX8_cheap_125 (by decide) ?_
              refine lv_iadd hx hb dX8_cheap_129 ?_
              refine lv_topi (fun x36 ex36 => ?_)
              have hF := hF.trans (kb_some (congrArg some ex36.symm) _)
              refine lv_istore (lv' := [(7, .int x36), (0, .ref (Z.1 30 0)), (1, .int a1), (2, .int a2), (3, .int a3), (4, .int x4_88), (5, .int x5_88), (6, .int x6_88), (8, .int x8_88), (9, .int x9_88)]) hx hb dX8_cheap_130 hl (by decide) rfl (fun ls hl => ?_)
              refine lv_iinc (v := x9_88 + 1) (lv' := [(9, .int (x9_88 + 1)), (7, .int x36), (0, .ref (Z.1 30 0)), (1, .int a1), (2, .int a2), (3, .int a3), (4, .int x4_88), (5, .int x5_88), (6, .int x6_88), (8, .int x8_88)]) hx hb dX8_cheap_132 hl (k := 9) rfl rfl (by decide) rfl (fun ls hl => ?_)
              refine lv_goto (tgt := 88) hx hb dX8_cheap_135 (by decide) ?_
              have hl := lv_sub (l' := [(0, .ref (Z.1 30 0)), (1, .int a1), (2, .int a2), (3, .int a3), (4, .int x4_88), (5, .int x5_88), (6, .int x6_88), (7, .int x36), (8, .int x8_88), (9, .int (x9_88 + 1))]) hl [2, 3, 4, 5, 6, 7, 8, 1, 9, 0] rfl
              exact ih88 x4_88 x5_88 x6_88 x36 x8_88 (x9_88 + 1) _ _ _ hF hw hl
      refine lv_iload hx hb dX8_cheap_48 (lv_at hl 6 rfl) ?_
      refine lv_aload_n hx hb dX8_cheap_50 rfl (lv_at hl 0 rfl) ?_
      refine km_get (ci := 8) (C := RX8) (T := TX8) (N := 23) (t := 30) (i := 0) hx hb hts fi_X8_cheap_X8 hown hK hw (by decide) (by decide) rfl rfl 13 (by decide) (hts (.fieldLink RX8 25 "WrongWordModel" "now" "[I") ow_X8_cheap_25) rfl dX8_cheap_51 ?_
      refine lv_bipush (v := 6) hx hb dX8_cheap_54 (by decide) ?_
      refine km_iald (t := 36) (i := 0) hx hb hK hw (by decide) (by decide) rfl (by unfold vp_in; decide) dX8_cheap_56 ?_
      refine lv_icmp_gt (tgt := 269) hx hb dX8_cheap_57 (by decide) (fun c37 => ?_) (fun c37 => ?_)
      · skip
        have hF := hF.trans (if_pos c37)
        refine lv_iload_n hx hb dX8_cheap_269 rfl (lv_at hl 3 rfl) ?_
        refine lv_if_ne (tgt := 278) hx hb dX8_cheap_270 (by decide) (fun c38 => ?_) (fun c38 => ?_)
        · skip
          have hF := hF.trans (if_neg c38)
          refine lv_iload hx hb dX8_cheap_278 (lv_at hl 4 rfl) ?_
          exact hret _ _ _ _ _ _ hw dX8_cheap_280 ⟨hF, rfl⟩
        · skip
          have hF := hF.trans (if_pos c38)
          refine lv_iload hx hb dX8_cheap_273 (lv_at hl 5 rfl) ?_
          refine lv_goto (tgt := 280) hx hb dX8_cheap_275 (by decide) ?_
          exact hret _ _ _ _ _ _ hw dX8_cheap_280 ⟨hF, rfl⟩
      · skip
        have hF := hF.trans (if_neg c37)
        refine lv_iconst (v := 0) hx hb dX8_cheap_60 (by decide) ?_
        refine lv_istore (lv' := [(7, .int 0), (0, .ref (Z.1 30 0)), (1, .int a1), (2, .int a2), (3, .int a3), (4, .int x4_48), (5, .int x5_48), (6, .int x6_48)]) hx hb dX8_cheap_61 hl (by decide) rfl (fun ls hl => ?_)
        refine lv_iload hx hb dX8_cheap_63 (lv_at hl 7 rfl) ?_
        refine lv_aload_n hx hb dX8_cheap_65 rfl (lv_at hl 1 rfl) ?_
        refine km_get (ci := 8) (C := RX8) (T := TX8) (N := 23) (t := 30) (i := 0) hx hb hts fi_X8_cheap_X8 hown hK hw (by decide) (by decide) rfl rfl 13 (by decide) (hts (.fieldLink RX8 25 "WrongWordModel" "now" "[I") ow_X8_cheap_25) rfl dX8_cheap_66 ?_
        refine lv_bipush (v := 6) hx hb dX8_cheap_69 (by decide) ?_
        refine km_iald (t := 36) (i := 0) hx hb hK hw (by decide) (by decide) rfl (by unfold vp_in; decide) dX8_cheap_71 ?_
        refine lv_iconst (v := (-1)) hx hb dX8_cheap_72 (by decide) ?_
        refine lv_ixor hx hb dX8_cheap_73 ?_
        refine lv_iand hx hb dX8_cheap_74 ?_
        refine lv_if_ne (tgt := 82) hx hb dX8_cheap_75 (by decide) (fun c39 => ?_) (fun c39 => ?_)
        · skip
          have hF := hF.trans (if_neg c39)
          refine lv_iconst (v := 0) hx hb dX8_cheap_82 (by decide) ?_
          refine lv_istore (lv' := [(8, .int 0), (7, .int 0), (0, .ref (Z.1 30 0)), (1, .int a1), (2, .int a2), (3, .int a3), (4, .int x4_48), (5, .int x5_48), (6, .int x6_48)]) hx hb dX8_cheap_83 hl (by decide) rfl (fun ls hl => ?_)
          refine lv_iconst (v := 0) hx hb dX8_cheap_85 (by decide) ?_
          refine lv_istore (lv' := [(9, .int 0), (8, .int 0), (7, .int 0), (0, .ref (Z.1 30 0)), (1, .int a1), (2, .int a2), (3, .int a3), (4, .int x4_48), (5, .int x5_48), (6, .int x6_48)]) hx hb dX8_cheap_86 hl (by decide) rfl (fun ls hl => ?_)
          have hl := lv_sub (l' := [(0, .ref (Z.1 30 0)), (1, .int a1), (2, .int a2), (3, .int a3), (4, .int x4_48), (5, .int x5_48), (6, .int x6_48), (7, .int 0), (8, .int 0), (9, .int 0)]) hl [3, 4, 5, 6, 7, 8, 9, 2, 1, 0] rfl
          exact loop88 2000 x4_48 x5_48 x6_48 0 0 0 _ _ _ hF hw hl
        · skip
          have hF := hF.trans (if_pos c39)
          refine lv_iconst (v := 1) hx hb dX8_cheap_78 (by decide) ?_
          refine lv_goto (tgt := 83) hx hb dX8_cheap_79 (by decide) ?_
          refine lv_istore (lv' := [(8, .int 1), (7, .int 0), (0, .ref (Z.1 30 0)), (1, .int a1), (2, .int a2), (3, .int a3), (4, .int x4_48), (5, .int x5_48), (6, .int x6_48)]) hx hb dX8_cheap_83 hl (by decide) rfl (fun ls hl => ?_)
          refine lv_iconst (v := 0) hx hb dX8_cheap_85 (by decide) ?_
          refine lv_istore (lv' := [(9, .int 0), (8, .int 1), (7, .int 0), (0, .ref (Z.1 30 0)), (1, .int a1), (2, .int a2), (3, .int a3), (4, .int x4_48), (5, .int x5_48), (6, .int x6_48)]) hx hb dX8_cheap_86 hl (by decide) rfl (fun ls hl => ?_)
          have hl := lv_sub (l' := [(0, .ref (Z.1 30 0)), (1, .int a1), (2, .int a2), (3, .int a3), (4, .int x4_48), (5, .int x5_48), (6, .int x6_48), (7, .int 0), (8, .int 1), (9, .int 0)]) hl [3, 4, 5, 6, 7, 8, 9, 2, 1, 0] rfl
          exact loop88 2000 x4_48 x5_48 x6_48 0 1 0 _ _ _ hF hw hl
  refine lv_aload_n hx hb dX8_cheap_0 rfl (lv_at hl 0 rfl) ?_
  have hs40 : g_X8_isGate v ≠ none := fun q => hs (hF.trans (kb_n q _))
  refine km_cI (As := []) (rest := []) (n := 0) (q := (RX8, TX8, 23)) (ci := 8) (t := 30) (i := 0) ⟨hx, hb, hml, hown, hts⟩ (d_X8_isGate l E Z v  hs40) gX8_cheap_X8_isGate rfl hV_X8_isGate ⟨Nat.le_of_ble_eq_true rfl, Nat.le_of_ble_eq_true rfl⟩ hK hw (by decide) (by decide) rfl rfl rfl hl.1 rfl (Nat.le_of_ble_eq_true rfl) dX8_cheap_1 rfl rfl (fun r41 v42 H locs hp hw => ?_)
  obtain ⟨hp, hzr41⟩ := hp
  obtain ⟨hp, rfl⟩ := hp
  have hF := hF.trans (kb_some hp _)
  refine lv_if_ne (tgt := 10) hx hb dX8_cheap_4 (by decide) (fun c43 => ?_) (fun c43 => ?_)
  · skip
    have hF := hF.trans (if_neg c43)
    refine lv_aload_n hx hb dX8_cheap_10 rfl (lv_at hl 0 rfl) ?_
    refine lv_iload_n hx hb dX8_cheap_11 rfl (lv_at hl 1 rfl) ?_
    have hs44 : g_X8_areWords v a1 ≠ none := fun q => hs (hF.trans (kb_n q _))
    refine km_cI (As := [.int a1]) (rest := []) (n := 1) (q := (RX8, TX8, 23)) (ci := 8) (t := 30) (i := 0) ⟨hx, hb, hml, hown, hts⟩ (d_X8_areWords l E Z v a1 hs44) gX8_cheap_X8_areWords rfl hV_X8_areWords ⟨Nat.le_of_ble_eq_true rfl, Nat.le_of_ble_eq_true rfl⟩ hK hw (by decide) (by decide) rfl rfl rfl hl.1 rfl (Nat.le_of_ble_eq_true rfl) dX8_cheap_12 rfl rfl (fun r45 v46 H locs hp hw => ?_)
    obtain ⟨hp, hzr45⟩ := hp
    obtain ⟨hp, rfl⟩ := hp
    have hF := hF.trans (kb_some hp _)
    refine lv_if_eq (tgt := 34) hx hb dX8_cheap_15 (by decide) (fun c47 => ?_) (fun c47 => ?_)
    · skip
      have hF := hF.trans (if_pos c47)
      refine lv_ldc (v := (-1000001)) hx hb hown (hts (.constant RX8 64 (-1000001)) ow_X8_cheap_64) dX8_cheap_34 ?_
      exact hret _ _ _ _ _ _ hw dX8_cheap_36 ⟨hF, rfl⟩
    · skip
      have hF := hF.trans (if_neg c47)
      refine lv_iload_n hx hb dX8_cheap_18 rfl (lv_at hl 2 rfl) ?_
      have hs48 : g_X8_isFar v a2 ≠ none := fun q => hs (hF.trans (kb_n q _))
      refine km_cS (As := [.int a2]) (rest := []) (n := 1) ⟨hx, hb, hml, hown, hts⟩ (d_X8_isFar l E Z v a2 hs48) gX8_cheap_X8_isFar rfl hV_X8_isFar ⟨Nat.le_of_ble_eq_true rfl, Nat.le_of_ble_eq_true rfl⟩ hK hw rfl hl.1 rfl (Nat.le_of_ble_eq_true rfl) dX8_cheap_19 rfl rfl (fun r49 v50 H locs hp hw => ?_)
      obtain ⟨hp, hzr49⟩ := hp
      obtain ⟨hp, rfl⟩ := hp
      have hF := hF.trans (kb_some hp _)
      refine lv_if_eq (tgt := 34) hx hb dX8_cheap_22 (by decide) (fun c51 => ?_) (fun c51 => ?_)
      · skip
        have hF := hF.trans (if_pos c51)
        refine lv_ldc (v := (-1000001)) hx hb hown (hts (.constant RX8 64 (-1000001)) ow_X8_cheap_64) dX8_cheap_34 ?_
        exact hret _ _ _ _ _ _ hw dX8_cheap_36 ⟨hF, rfl⟩
      · skip
        have hF := hF.trans (if_neg c51)
        refine lv_iload_n hx hb dX8_cheap_25 rfl (lv_at hl 3 rfl) ?_
        refine lv_iconst (v := 0) hx hb dX8_cheap_26 (by decide) ?_
        refine lv_iconst (v := 1) hx hb dX8_cheap_27 (by decide) ?_
        have hs52 : g_X8_in v a3 0 1 ≠ none := fun q => hs (hF.trans (kb_n q _))
        refine km_cS (As := [.int a3, .int 0, .int 1]) (rest := []) (n := 3) ⟨hx, hb, hml, hown, hts⟩ (d_X8_in l E Z v a3 0 1 hs52) gX8_cheap_X8_in rfl hV_X8_in ⟨Nat.le_of_ble_eq_true rfl, Nat.le_of_ble_eq_true rfl⟩ hK hw rfl hl.1 rfl (Nat.le_of_ble_eq_true rfl) dX8_cheap_28 rfl rfl (fun r53 v54 H locs hp hw => ?_)
        obtain ⟨hp, hzr53⟩ := hp
        obtain ⟨hp, rfl⟩ := hp
        have hF := hF.trans (kb_some hp _)
        refine lv_if_ne (tgt := 37) hx hb dX8_cheap_31 (by decide) (fun c55 => ?_) (fun c55 => ?_)
        · skip
          have hF := hF.trans (if_neg c55)
          refine lv_ldc (v := (-1000000)) hx hb hown (hts (.constant RX8 50 (-1000000)) ow_X8_cheap_50) dX8_cheap_37 ?_
          refine lv_istore (lv' := [(4, .int ((-1000000))), (0, .ref (Z.1 30 0)), (1, .int a1), (2, .int a2), (3, .int a3)]) hx hb dX8_cheap_39 hl (by decide) rfl (fun ls hl => ?_)
          refine lv_ldc (v := (-1000000)) hx hb hown (hts (.constant RX8 50 (-1000000)) ow_X8_cheap_50) dX8_cheap_41 ?_
          refine lv_istore (lv' := [(5, .int ((-1000000))), (4, .int ((-1000000))), (0, .ref (Z.1 30 0)), (1, .int a1), (2, .int a2), (3, .int a3)]) hx hb dX8_cheap_43 hl (by decide) rfl (fun ls hl => ?_)
          refine lv_iconst (v := 0) hx hb dX8_cheap_45 (by decide) ?_
          refine lv_istore (lv' := [(6, .int 0), (5, .int ((-1000000))), (4, .int ((-1000000))), (0, .ref (Z.1 30 0)), (1, .int a1), (2, .int a2), (3, .int a3)]) hx hb dX8_cheap_46 hl (by decide) rfl (fun ls hl => ?_)
          have hl := lv_sub (l' := [(0, .ref (Z.1 30 0)), (1, .int a1), (2, .int a2), (3, .int a3), (4, .int ((-1000000))), (5, .int ((-1000000))), (6, .int 0)]) hl [3, 4, 5, 6, 2, 1, 0] rfl
          exact loop48 2000 ((-1000000)) ((-1000000)) 0 _ _ _ hF hw hl
        · skip
          have hF := hF.trans (if_pos c55)
          refine lv_ldc (v := (-1000001)) hx hb hown (hts (.constant RX8 64 (-1000001)) ow_X8_cheap_64) dX8_cheap_34 ?_
          exact hret _ _ _ _ _ _ hw dX8_cheap_36 ⟨hF, rfl⟩
  · skip
    have hF := hF.trans (if_pos c43)
    refine lv_ldc (v := (-1000002)) hx hb hown (hts (.constant RX8 183 (-1000002)) ow_X8_cheap_183) dX8_cheap_7 ?_
    exact hret _ _ _ _ _ _ hw dX8_cheap_9 ⟨hF, rfl⟩
abbrev rmX8_near : Room := { frames := 2, cells := 0, slots := 0, locals := 43 }
def b_X8_near_L26  (rec26 : Int32 → Int32 → Option (Int32)) (v : Mm) (a1 : Int32) (a2 : Int32) (x3_26 : Int32) (x4_26 : Int32) : Option (Int32) := if v 36 0 (Int32.toNatClampNeg 3) ≤ x4_26 then (if x3_26 = (-1000000) then (some x3_26) else (if a2 = 0 then (some x3_26) else (Option.bind (g_X8_distance v x3_26 a1) (fun r13 => some r13)))) else (if x4_26 = a1 then (rec26 x3_26 (x4_26 + 1)) else (if x3_26 = (-1000000) then (rec26 x4_26 (x4_26 + 1)) else (Option.bind (g_X8_distance v x4_26 a1) (fun r18 => Option.bind (g_X8_distance v x3_26 a1) (fun r21 => if r21 ≤ r18 then (rec26 x3_26 (x4_26 + 1)) else (rec26 x4_26 (x4_26 + 1)))))))
def g_X8_near_L26  (v : Mm) (a1 : Int32) (a2 : Int32) : Nat → Int32 → Int32 → Option (Int32)
  | 0 => fun _ _ => none
  | n + 1 => b_X8_near_L26  (g_X8_near_L26  v a1 a2 n) v a1 a2
def g_X8_near (v : Mm) (a1 : Int32) (a2 : Int32) : Option (Int32) := Option.bind (g_X8_isWord v a1) (fun r2 => if r2 = 0 then (some ((-1000001))) else (Option.bind (g_X8_in v a2 0 1) (fun r6 => if r6 = 0 then (some ((-1000001))) else (g_X8_near_L26  v a1 a2 2000 ((-1000000)) 0))))
set_option maxHeartbeats 4000000 in
set_option maxRecDepth 100000 in
theorem d_X8_near (l : Launch) (E : kq_T) (Z : km_Z) (v : Mm) (a1 : Int32) (a2 : Int32) (hs : g_X8_near v a1 a2 ≠ none) : km_I l E Z cntM yX8_near wsX8_near rmX8_near [.ref (Z.1 30 0), .int a1, .int a2] v (fun r v1 => g_X8_near v a1 a2 = some r ∧ v = v1) := by
  refine km_goI (cc := cX8_near) (maxL := 5) (by decide) rfl (Nat.le_of_ble_eq_true rfl) rfl rfl rfl ?_
  intro p e s m below meth c A ls Q C hK hw hl hret
  obtain ⟨hx, hb, hml, hown, hts, -, -, -⟩ := C
  have hown : s.vm.findClass RX8 = some m.cls := hown
  have hl : lv_has ls 5 [(0, .ref (Z.1 30 0)), (1, .int a1), (2, .int a2)] := hl
  have hF := g_X8_near.eq_1 v a1 a2
  have loop26 : ∀ (n26 : Nat) (x3_26 : Int32) (x4_26 : Int32) (H : Heap) (locs : List Loc) (ls : Array Slot), g_X8_near v a1 a2 = g_X8_near_L26  v a1 a2 n26 x3_26 x4_26 → km_w E A s.heap [] Z cntM v H locs → lv_has ls 5 [(0, .ref (Z.1 30 0)), (1, .int a1), (2, .int a2), (3, .int x3_26), (4, .int x4_26)] → W p l e rmX8_near s m [.ref (Z.1 30 0), .int a1, .int a2].toArray below meth c H locs 0 0 Q (F0 m 26 ls []) := by
    intro n26
    induction n26 with
    | zero => intro x3_26 x4_26 H locs ls hF hw hl; exact absurd (show g_X8_near v a1 a2 = none from hF) hs
    | succ n26 ih26 =>
      intro x3_26 x4_26 H locs ls hF hw hl
      have hF := hF.trans (b_X8_near_L26.eq_1  (g_X8_near_L26  v a1 a2 n26) v a1 a2 x3_26 x4_26)
      refine lv_iload hx hb dX8_near_26 (lv_at hl 4 rfl) ?_
      refine lv_aload_n hx hb dX8_near_28 rfl (lv_at hl 0 rfl) ?_
      refine km_get (ci := 8) (C := RX8) (T := TX8) (N := 23) (t := 30) (i := 0) hx hb hts fi_X8_near_X8 hown hK hw (by decide) (by decide) rfl rfl 13 (by decide) (hts (.fieldLink RX8 25 "WrongWordModel" "now" "[I") ow_X8_near_25) rfl dX8_near_29 ?_
      refine lv_iconst (v := 3) hx hb dX8_near_32 (by decide) ?_
      refine km_iald (t := 36) (i := 0) hx hb hK hw (by decide) (by decide) rfl (by unfold vp_in; decide) dX8_near_33 ?_
      refine lv_icmp_ge (tgt := 78) hx hb dX8_near_34 (by decide) (fun c1 => ?_) (fun c1 => ?_)
      · skip
        have hF := hF.trans (if_pos c1)
        refine lv_iload_n hx hb dX8_near_78 rfl (lv_at hl 3 rfl) ?_
        refine lv_ldc (v := (-1000000)) hx hb hown (hts (.constant RX8 50 (-1000000)) ow_X8_near_50) dX8_near_79 ?_
        refine lv_icmp_eq (tgt := 88) hx hb dX8_near_81 (by decide) (fun c2 => ?_) (fun c2 => ?_)
        · skip
          have hF := hF.trans (if_pos c2)
          refine lv_iload_n hx hb dX8_near_88 rfl (lv_at hl 3 rfl) ?_
          refine lv_goto (tgt := 98) hx hb dX8_near_89 (by decide) ?_
          exact hret _ _ _ _ _ _ hw dX8_near_98 ⟨hF, rfl⟩
        · skip
          have hF := hF.trans (if_neg c2)
          refine lv_iload_n hx hb dX8_near_84 rfl (lv_at hl 2 rfl) ?_
          refine lv_if_ne (tgt := 92) hx hb dX8_near_85 (by decide) (fun c3 => ?_) (fun c3 => ?_)
          · skip
            have hF := hF.trans (if_neg c3)
            refine lv_aload_n hx hb dX8_near_92 rfl (lv_at hl 0 rfl) ?_
            refine lv_iload_n hx hb dX8_near_93 rfl (lv_at hl 3 rfl) ?_
            refine lv_iload_n hx hb dX8_near_94 rfl (lv_at hl 1 rfl) ?_
            have hs4 : g_X8_distance v x3_26 a1 ≠ none := fun q => hs (hF.trans (kb_n q _))
            refine km_cI (As := [.int x3_26, .int a1]) (rest := []) (n := 2) (q := (RX8, TX8, 23)) (ci := 8) (t := 30) (i := 0) ⟨hx, hb, hml, hown, hts⟩ (d_X8_distance l E Z v x3_26 a1 hs4) gX8_near_X8_distance rfl hV_X8_distance ⟨Nat.le_of_ble_eq_true rfl, Nat.le_of_ble_eq_true rfl⟩ hK hw (by decide) (by decide) rfl rfl rfl hl.1 rfl (Nat.le_of_ble_eq_true rfl) dX8_near_95 rfl rfl (fun r5 v6 H locs hp hw => ?_)
            obtain ⟨hp, rfl⟩ := hp
            have hF := hF.trans (kb_some hp _)
            exact hret _ _ _ _ _ _ hw dX8_near_98 ⟨hF, rfl⟩
          · skip
            have hF := hF.trans (if_pos c3)
            refine lv_iload_n hx hb dX8_near_88 rfl (lv_at hl 3 rfl) ?_
            refine lv_goto (tgt := 98) hx hb dX8_near_89 (by decide) ?_
            exact hret _ _ _ _ _ _ hw dX8_near_98 ⟨hF, rfl⟩
      · skip
        have hF := hF.trans (if_neg c1)
        refine lv_iload hx hb dX8_near_37 (lv_at hl 4 rfl) ?_
        refine lv_iload_n hx hb dX8_near_39 rfl (lv_at hl 1 rfl) ?_
        refine lv_icmp_eq (tgt := 70) hx hb dX8_near_40 (by decide) (fun c7 => ?_) (fun c7 => ?_)
        · skip
          have hF := hF.trans (if_pos c7)
          refine lv_iload_n hx hb dX8_near_70 rfl (lv_at hl 3 rfl) ?_
          refine lv_istore_n (lv' := [(3, .int x3_26), (0, .ref (Z.1 30 0)), (1, .int a1), (2, .int a2), (4, .int x4_26)]) hx hb dX8_near_71 rfl hl (by decide) rfl (fun ls hl => ?_)
          refine lv_iinc (v := x4_26 + 1) (lv' := [(4, .int (x4_26 + 1)), (3, .int x3_26), (0, .ref (Z.1 30 0)), (1, .int a1), (2, .int a2)]) hx hb dX8_near_72 hl (k := 4) rfl rfl (by decide) rfl (fun ls hl => ?_)
          refine lv_goto (tgt := 26) hx hb dX8_near_75 (by decide) ?_
          have hl := lv_sub (l' := [(0, .ref (Z.1 30 0)), (1, .int a1), (2, .int a2), (3, .int x3_26), (4, .int (x4_26 + 1))]) hl [2, 3, 4, 1, 0] rfl
          exact ih26 x3_26 (x4_26 + 1) _ _ _ hF hw hl
        · skip
          have hF := hF.trans (if_neg c7)
          refine lv_iload_n hx hb dX8_near_43 rfl (lv_at hl 3 rfl) ?_
          refine lv_ldc (v := (-1000000)) hx hb hown (hts (.constant RX8 50 (-1000000)) ow_X8_near_50) dX8_near_44 ?_
          refine lv_icmp_eq (tgt := 65) hx hb dX8_near_46 (by decide) (fun c8 => ?_) (fun c8 => ?_)
          · skip
            have hF := hF.trans (if_pos c8)
            refine lv_iload hx hb dX8_near_65 (lv_at hl 4 rfl) ?_
            refine lv_goto (tgt := 71) hx hb dX8_near_67 (by decide) ?_
            refine lv_istore_n (lv' := [(3, .int x4_26), (0, .ref (Z.1 30 0)), (1, .int a1), (2, .int a2), (4, .int x4_26)]) hx hb dX8_near_71 rfl hl (by decide) rfl (fun ls hl => ?_)
            refine lv_iinc (v := x4_26 + 1) (lv' := [(4, .int (x4_26 + 1)), (3, .int x4_26), (0, .ref (Z.1 30 0)), (1, .int a1), (2, .int a2)]) hx hb dX8_near_72 hl (k := 4) rfl rfl (by decide) rfl (fun ls hl => ?_)
            refine lv_goto (tgt := 26) hx hb dX8_near_75 (by decide) ?_
            have hl := lv_sub (l' := [(0, .ref (Z.1 30 0)), (1, .int a1), (2, .int a2), (3, .int x4_26), (4, .int (x4_26 + 1))]) hl [2, 3, 4, 1, 0] rfl
            exact ih26 x4_26 (x4_26 + 1) _ _ _ hF hw hl
          · skip
            have hF := hF.trans (if_neg c8)
            refine lv_aload_n hx hb dX8_near_49 rfl (lv_at hl 0 rfl) ?_
            refine lv_iload hx hb dX8_near_50 (lv_at hl 4 rfl) ?_
            refine lv_iload_n hx hb dX8_near_52 rfl (lv_at hl 1 rfl) ?_
            have hs9 : g_X8_distance v x4_26 a1 ≠ none := fun q => hs (hF.trans (kb_n q _))
            refine km_cI (As := [.int x4_26, .int a1]) (rest := []) (n := 2) (q := (RX8, TX8, 23)) (ci := 8) (t := 30) (i := 0) ⟨hx, hb, hml, hown, hts⟩ (d_X8_distance l E Z v x4_26 a1 hs9) gX8_near_X8_distance rfl hV_X8_distance ⟨Nat.le_of_ble_eq_true rfl, Nat.le_of_ble_eq_true rfl⟩ hK hw (by decide) (by decide) rfl rfl rfl hl.1 rfl (Nat.le_of_ble_eq_true rfl) dX8_near_53 rfl rfl (fun r10 v11 H locs hp hw => ?_)
            obtain ⟨hp, rfl⟩ := hp
            have hF := hF.trans (kb_some hp _)
            refine lv_aload_n hx hb dX8_near_56 rfl (lv_at hl 0 rfl) ?_
            refine lv_iload_n hx hb dX8_near_57 rfl (lv_at hl 3 rfl) ?_
            refine lv_iload_n hx hb dX8_near_58 rfl (lv_at hl 1 rfl) ?_
            have hs12 : g_X8_distance v x3_26 a1 ≠ none := fun q => hs (hF.trans (kb_n q _))
            refine km_cI (As := [.int x3_26, .int a1]) (rest := [.int r10]) (n := 2) (q := (RX8, TX8, 23)) (ci := 8) (t := 30) (i := 0) ⟨hx, hb, hml, hown, hts⟩ (d_X8_distance l E Z v x3_26 a1 hs12) gX8_near_X8_distance rfl hV_X8_distance ⟨Nat.le_of_ble_eq_true rfl, Nat.le_of_ble_eq_true rfl⟩ hK hw (by decide) (by decide) rfl rfl rfl hl.1 rfl (Nat.le_of_ble_eq_true rfl) dX8_near_59 rfl rfl (fun r13 v14 H locs hp hw => ?_)
            obtain ⟨hp, rfl⟩ := hp
            have hF := hF.trans (kb_some hp _)
            refine lv_icmp_ge (tgt := 70) hx hb dX8_near_62 (by decide) (fun c15 => ?_) (fun c15 => ?_)
            · skip
              have hF := hF.trans (if_pos c15)
              refine lv_iload_n hx hb dX8_near_70 rfl (lv_at hl 3 rfl) ?_
              refine lv_istore_n (lv' := [(3, .int x3_26), (0, .ref (Z.1 30 0)), (1, .int a1), (2, .int a2), (4, .int x4_26)]) hx hb dX8_near_71 rfl hl (by decide) rfl (fun ls hl => ?_)
              refine lv_iinc (v := x4_26 + 1) (lv' := [(4, .int (x4_26 + 1)), (3, .int x3_26), (0, .ref (Z.1 30 0)), (1, .int a1), (2, .int a2)]) hx hb dX8_near_72 hl (k := 4) rfl rfl (by decide) rfl (fun ls hl => ?_)
              refine lv_goto (tgt := 26) hx hb dX8_near_75 (by decide) ?_
              have hl := lv_sub (l' := [(0, .ref (Z.1 30 0)), (1, .int a1), (2, .int a2), (3, .int x3_26), (4, .int (x4_26 + 1))]) hl [2, 3, 4, 1, 0] rfl
              exact ih26 x3_26 (x4_26 + 1) _ _ _ hF hw hl
            · skip
              have hF := hF.trans (if_neg c15)
              refine lv_iload hx hb dX8_near_65 (lv_at hl 4 rfl) ?_
              refine lv_goto (tgt := 71) hx hb dX8_near_67 (by decide) ?_
              refine lv_istore_n (lv' := [(3, .int x4_26), (0, .ref (Z.1 30 0)), (1, .int a1), (2, .int a2), (4, .int x4_26)]) hx hb dX8_near_71 rfl hl (by decide) rfl (fun ls hl => ?_)
              refine lv_iinc (v := x4_26 + 1) (lv' := [(4, .int (x4_26 + 1)), (3, .int x4_26), (0, .ref (Z.1 30 0)), (1, .int a1), (2, .int a2)]) hx hb dX8_near_72 hl (k := 4) rfl rfl (by decide) rfl (fun ls hl => ?_)
              refine lv_goto (tgt := 26) hx hb dX8_near_75 (by decide) ?_
              have hl := lv_sub (l' := [(0, .ref (Z.1 30 0)), (1, .int a1), (2, .int a2), (3, .int x4_26), (4, .int (x4_26 + 1))]) hl [2, 3, 4, 1, 0] rfl
              exact ih26 x4_26 (x4_26 + 1) _ _ _ hF hw hl
  refine lv_aload_n hx hb dX8_near_0 rfl (lv_at hl 0 rfl) ?_
  refine lv_iload_n hx hb dX8_near_1 rfl (lv_at hl 1 rfl) ?_
  have hs16 : g_X8_isWord v a1 ≠ none := fun q => hs (hF.trans (kb_n q _))
  refine km_cI (As := [.int a1]) (rest := []) (n := 1) (q := (RX8, TX8, 23)) (ci := 8) (t := 30) (i := 0) ⟨hx, hb, hml, hown, hts⟩ (d_X8_isWord l E Z v a1 hs16) gX8_near_X8_isWord rfl hV_X8_isWord ⟨Nat.le_of_ble_eq_true rfl, Nat.le_of_ble_eq_true rfl⟩ hK hw (by decide) (by decide) rfl rfl rfl hl.1 rfl (Nat.le_of_ble_eq_true rfl) dX8_near_2 rfl rfl (fun r17 v18 H locs hp hw => ?_)
  obtain ⟨hp, hzr17⟩ := hp
  obtain ⟨hp, rfl⟩ := hp
  have hF := hF.trans (kb_some hp _)
  refine lv_if_eq (tgt := 17) hx hb dX8_near_5 (by decide) (fun c19 => ?_) (fun c19 => ?_)
  · skip
    have hF := hF.trans (if_pos c19)
    refine lv_ldc (v := (-1000001)) hx hb hown (hts (.constant RX8 64 (-1000001)) ow_X8_near_64) dX8_near_17 ?_
    exact hret _ _ _ _ _ _ hw dX8_near_19 ⟨hF, rfl⟩
  · skip
    have hF := hF.trans (if_neg c19)
    refine lv_iload_n hx hb dX8_near_8 rfl (lv_at hl 2 rfl) ?_
    refine lv_iconst (v := 0) hx hb dX8_near_9 (by decide) ?_
    refine lv_iconst (v := 1) hx hb dX8_near_10 (by decide) ?_
    have hs20 : g_X8_in v a2 0 1 ≠ none := fun q => hs (hF.trans (kb_n q _))
    refine km_cS (As := [.int a2, .int 0, .int 1]) (rest := []) (n := 3) ⟨hx, hb, hml, hown, hts⟩ (d_X8_in l E Z v a2 0 1 hs20) gX8_near_X8_in rfl hV_X8_in ⟨Nat.le_of_ble_eq_true rfl, Nat.le_of_ble_eq_true rfl⟩ hK hw rfl hl.1 rfl (Nat.le_of_ble_eq_true rfl) dX8_near_11 rfl rfl (fun r21 v22 H locs hp hw => ?_)
    obtain ⟨hp, hzr21⟩ := hp
    obtain ⟨hp, rfl⟩ := hp
    have hF := hF.trans (kb_some hp _)
    refine lv_if_ne (tgt := 20) hx hb dX8_near_14 (by decide) (fun c23 => ?_) (fun c23 => ?_)
    · skip
      have hF := hF.trans (if_neg c23)
      refine lv_ldc (v := (-1000000)) hx hb hown (hts (.constant RX8 50 (-1000000)) ow_X8_near_50) dX8_near_20 ?_
      refine lv_istore_n (lv' := [(3, .int ((-1000000))), (0, .ref (Z.1 30 0)), (1, .int a1), (2, .int a2)]) hx hb dX8_near_22 rfl hl (by decide) rfl (fun ls hl => ?_)
      refine lv_iconst (v := 0) hx hb dX8_near_23 (by decide) ?_
      refine lv_istore (lv' := [(4, .int 0), (3, .int ((-1000000))), (0, .ref (Z.1 30 0)), (1, .int a1), (2, .int a2)]) hx hb dX8_near_24 hl (by decide) rfl (fun ls hl => ?_)
      have hl := lv_sub (l' := [(0, .ref (Z.1 30 0)), (1, .int a1), (2, .int a2), (3, .int ((-1000000))), (4, .int 0)]) hl [2, 3, 4, 1, 0] rfl
      exact loop26 2000 ((-1000000)) 0 _ _ _ hF hw hl
    · skip
      have hF := hF.trans (if_pos c23)
      refine lv_ldc (v := (-1000001)) hx hb hown (hts (.constant RX8 64 (-1000001)) ow_X8_near_64) dX8_near_17 ?_
      exact hret _ _ _ _ _ _ hw dX8_near_19 ⟨hF, rfl⟩
abbrev rmX8_rules : Room := { frames := 2, cells := 0, slots := 0, locals := 42 }
def b_X8_rules_L122 (rec76 : Mm → Int32 → Int32 → Option (Int32 × Mm)) (rec122 : Mm → Int32 → Int32 → Int32 → Int32 → Option (Int32 × Mm)) (a1 : Int32) (a2 : Int32) (a3 : Int32) (a4 : Int32) (w122 : Mm) (x5_122 : Int32) (x6_122 : Int32) (x7_122 : Int32) (x8_122 : Int32) : Option (Int32 × Mm) := if a3 ≤ x8_122 then (if x7_122 = 0 then (rec76 w122 (x5_122 ||| 0) (x6_122 + 1)) else (Option.bind (some (x5_122 ||| ((1 : Int32) <<< (x6_122 &&& 31)))) (fun x37 => rec76 w122 x37 (x6_122 + 1)))) else (if x7_122 = 0 then (rec122 w122 x5_122 x6_122 0 (x8_122 + 1)) else (Option.bind (g_X8_secretOf_38 w122 ((w122 36 0 (Int32.toNatClampNeg 5)) + x8_122)) (fun r40 => if (((40 : Int32) * a1) + a2) + x8_122 < 0 ∨ 320 ≤ Int32.toNatClampNeg ((((40 : Int32) * a1) + a2) + x8_122) then none else (if r40 = w122 33 0 (Int32.toNatClampNeg ((((40 : Int32) * a1) + a2) + x8_122)) then (rec122 w122 x5_122 x6_122 1 (x8_122 + 1)) else (rec122 w122 x5_122 x6_122 0 (x8_122 + 1))))))
def g_X8_rules_L122 (rec76 : Mm → Int32 → Int32 → Option (Int32 × Mm)) (a1 : Int32) (a2 : Int32) (a3 : Int32) (a4 : Int32) : Nat → Mm → Int32 → Int32 → Int32 → Int32 → Option (Int32 × Mm)
  | 0 => fun _ _ _ _ _ => none
  | n + 1 => b_X8_rules_L122 rec76 (g_X8_rules_L122 rec76 a1 a2 a3 a4 n) a1 a2 a3 a4
def b_X8_rules_L76  (rec76 : Mm → Int32 → Int32 → Option (Int32 × Mm)) (a1 : Int32) (a2 : Int32) (a3 : Int32) (a4 : Int32) (w76 : Mm) (x5_76 : Int32) (x6_76 : Int32) : Option (Int32 × Mm) := if a4 = 2 then (if 6 < x6_76 then (kb2 (g_X8_well w76 x5_76) (fun r37 v38 => some (r37, v38))) else (Option.bind (g_X8_copies_36_38 w76 0 0) (fun v41 => if a4 < 0 ∨ 65 ≤ Int32.toNatClampNeg a4 then none else (Option.bind (some (up3 v41 38 0 (Int32.toNatClampNeg a4) x6_76)) (fun v43 => g_X8_rules_L122 rec76 a1 a2 a3 a4 2000 v43 x5_76 x6_76 1 0))))) else (if 9 < x6_76 then (kb2 (g_X8_well w76 x5_76) (fun r28 v29 => some (r28, v29))) else (Option.bind (g_X8_copies_36_38 w76 0 0) (fun v32 => if a4 < 0 ∨ 65 ≤ Int32.toNatClampNeg a4 then none else (Option.bind (some (up3 v32 38 0 (Int32.toNatClampNeg a4) x6_76)) (fun v34 => g_X8_rules_L122 rec76 a1 a2 a3 a4 2000 v34 x5_76 x6_76 1 0)))))
def g_X8_rules_L76  (a1 : Int32) (a2 : Int32) (a3 : Int32) (a4 : Int32) : Nat → Mm → Int32 → Int32 → Option (Int32 × Mm)
  | 0 => fun _ _ _ => none
  | n + 1 => b_X8_rules_L76  (g_X8_rules_L76  a1 a2 a3 a4 n) a1 a2 a3 a4
def g_X8_rules (v : Mm) (a1 : Int32) (a2 : Int32) (a3 : Int32) (a4 : Int32) : Option (Int32 × Mm) := Option.bind (g_X8_isGate v) (fun r2 => if r2 = 0 then (some ((-1000002), v)) else (Option.bind (g_X8_isRow v a1) (fun r6 => if r6 = 0 then (some ((-1000001), v)) else (Option.bind (g_X8_in v a3 1 16) (fun r10 => if r10 = 0 then (some ((-1000001), v)) else (Option.bind (g_X8_in v a4 0 2) (fun r14 => if r14 = 0 then (some ((-1000001), v)) else (Option.bind (g_X8_isMissing v a1) (fun r18 => if r18 = 0 then (Option.bind (g_X8_isPart v a1 a2 a3) (fun r22 => if r22 = 0 then (kb2 (g_X8_found v 2) (fun r26 v27 => some (r26, v27))) else (g_X8_rules_L76  a1 a2 a3 a4 2000 v 0 0))) else (kb2 (g_X8_found v 1) (fun r29 v30 => some (r29, v30))))))))))))
set_option maxHeartbeats 4000000 in
set_option maxRecDepth 100000 in
theorem d_X8_rules (l : Launch) (E : kq_T) (Z : km_Z) (v : Mm) (a1 : Int32) (a2 : Int32) (a3 : Int32) (a4 : Int32) (hs : g_X8_rules v a1 a2 a3 a4 ≠ none) : km_I l E Z cntM yX8_rules wsX8_rules rmX8_rules [.ref (Z.1 30 0), .int a1, .int a2, .int a3, .int a4] v (fun r v1 => g_X8_rules v a1 a2 a3 a4 = some (r, v1)) := by
  refine km_goI (cc := cX8_rules) (maxL := 9) (by decide) rfl (Nat.le_of_ble_eq_true rfl) rfl rfl rfl ?_
  intro p e s m below meth c A ls Q C hK hw hl hret
  obtain ⟨hx, hb, hml, hown, hts, -, -, -⟩ := C
  have hown : s.vm.findClass RX8 = some m.cls := hown
  have hl : lv_has ls 9 [(0, .ref (Z.1 30 0)), (1, .int a1), (2, .int a2), (3, .int a3), (4, .int a4)] := hl
  have hF := g_X8_rules.eq_1 v a1 a2 a3 a4
  have loop76 : ∀ (n76 : Nat) (w76 : Mm) (x5_76 : Int32) (x6_76 : Int32) (H : Heap) (locs : List Loc) (ls : Array Slot), g_X8_rules v a1 a2 a3 a4 = g_X8_rules_L76  a1 a2 a3 a4 n76 w76 x5_76 x6_76 → km_w E A s.heap [] Z cntM w76 H locs → lv_has ls 9 [(0, .ref (Z.1 30 0)), (1, .int a1), (2, .int a2), (3, .int a3), (4, .int a4), (5, .int x5_76), (6, .int x6_76)] → W p l e rmX8_rules s m [.ref (Z.1 30 0), .int a1, .int a2, .int a3, .int a4].toArray below meth c H locs 0 0 Q (F0 m 76 ls []) := by
    intro n76
    induction n76 with
    | zero => intro w76 x5_76 x6_76 H locs ls hF hw hl; exact absurd (show g_X8_rules v a1 a2 a3 a4 = none from hF) hs
    | succ n76 ih76 =>
      intro w76 x5_76 x6_76 H locs ls hF hw hl
      have hF := hF.trans (b_X8_rules_L76.eq_1  (g_X8_rules_L76  a1 a2 a3 a4 n76) a1 a2 a3 a4 w76 x5_76 x6_76)
      have loop122 : ∀ (n122 : Nat) (w122 : Mm) (x5_122 : Int32) (x6_122 : Int32) (x7_122 : Int32) (x8_122 : Int32) (H : Heap) (locs : List Loc) (ls : Array Slot), g_X8_rules v a1 a2 a3 a4 = g_X8_rules_L122 (g_X8_rules_L76  a1 a2 a3 a4 n76) a1 a2 a3 a4 n122 w122 x5_122 x6_122 x7_122 x8_122 → km_w E A s.heap [] Z cntM w122 H locs → lv_has ls 9 [(0, .ref (Z.1 30 0)), (1, .int a1), (2, .int a2), (3, .int a3), (4, .int a4), (5, .int x5_122), (6, .int x6_122), (7, .int x7_122), (8, .int x8_122)] → W p l e rmX8_rules s m [.ref (Z.1 30 0), .int a1, .int a2, .int a3, .int a4].toArray below meth c H locs 0 0 Q (F0 m 122 ls []) := by
        intro n122
        induction n122 with
        | zero => intro w122 x5_122 x6_122 x7_122 x8_122 H locs ls hF hw hl; exact absurd (show g_X8_rules v a1 a2 a3 a4 = none from hF) hs
        | succ n122 ih122 =>
          intro w122 x5_122 x6_122 x7_122 x8_122 H locs ls hF hw hl
          have hF := hF.trans (b_X8_rules_L122.eq_1 (g_X8_rules_L76  a1 a2 a3 a4 n76) (g_X8_rules_L122 (g_X8_rules_L76  a1 a2 a3 a4 n76) a1 a2 a3 a4 n122) a1 a2 a3 a4 w122 x5_122 x6_122 x7_122 x8_122)
          refine lv_iload hx hb dX8_rules_122 (lv_at hl 8 rfl) ?_
          refine lv_iload_n hx hb dX8_rules_124 rfl (lv_at hl 3 rfl) ?_
          refine lv_icmp_ge (tgt := 179) hx hb dX8_rules_125 (by decide) (fun c1 => ?_) (fun c1 => ?_)
          · skip
            have hF := hF.trans (if_pos c1)
            refine lv_iload hx hb dX8_rules_179 (lv_at hl 5 rfl) ?_
            refine lv_iload hx hb dX8_rules_181 (lv_at hl 7 rfl) ?_
            refine lv_if_eq (tgt := 193) hx hb dX8_rules_183 (by decide) (fun c2 => ?_) (fun c2 => ?_)
            · skip
              have hF := hF.trans (if_pos c2)
              refine lv_iconst (v := 0) hx hb dX8_rules_193 (by decide) ?_
              refine lv_ior hx hb dX8_rules_194 ?_
              refine lv_istore (lv' := [(5, .int (x5_122 ||| 0)), (0, .ref (Z.1 30 0)), (1, .int a1), (2, .int a2), (3, .int a3), (4, .int a4), (6, .int x6_122), (7, .int x7_122), (8, .int x8_122)]) hx hb dX8_rules_195 hl (by decide) rfl (fun ls hl => ?_)
              refine lv_iinc (v := x6_122 + 1) (lv' := [(6, .int (x6_122 + 1)), (5, .int (x5_122 ||| 0)), (0, .ref (Z.1 30 0)), (1, .int a1), (2, .int a2), (3, .int a3), (4, .int a4), (7, .int x7_122), (8, .int x8_122)]) hx hb dX8_rules_197 hl (k := 6) rfl rfl (by decide) rfl (fun ls hl => ?_)
              refine lv_goto (tgt := 76) hx hb dX8_rules_200 (by decide) ?_
              have hl := lv_sub (l' := [(0, .ref (Z.1 30 0)), (1, .int a1), (2, .int a2), (3, .int a3), (4, .int a4), (5, .int (x5_122 ||| 0)), (6, .int (x6_122 + 1))]) hl [2, 3, 4, 5, 6, 1, 0] rfl
              exact ih76 w122 (x5_122 ||| 0) (x6_122 + 1) _ _ _ hF hw hl
            · skip
              have hF := hF.trans (if_neg c2)
              refine lv_iconst (v := 1) hx hb dX8_rules_186 (by decide) ?_
              refine lv_iload hx hb dX8_rules_187 (lv_at hl 6 rfl) ?_
              refine lv_ishl hx hb dX8_rules_189 ?_
              refine lv_goto (tgt := 194) hx hb dX8_rules_190 (by decide) ?_
              refine lv_ior hx hb dX8_rules_194 ?_
              refine lv_topi (fun x3 ex3 => ?_)
              have hF := hF.trans (kb_some (congrArg some ex3.symm) _)
              refine lv_istore (lv' := [(5, .int x3), (0, .ref (Z.1 30 0)), (1, .int a1), (2, .int a2), (3, .int a3), (4, .int a4), (6, .int x6_122), (7, .int x7_122), (8, .int x8_122)]) hx hb dX8_rules_195 hl (by decide) rfl (fun ls hl => ?_)
              refine lv_iinc (v := x6_122 + 1) (lv' := [(6, .int (x6_122 + 1)), (5, .int x3), (0, .ref (Z.1 30 0)), (1, .int a1), (2, .int a2), (3, .int a3), (4, .int a4), (7, .int x7_122), (8, .int x8_122)]) hx hb dX8_rules_197 hl (k := 6) rfl rfl (by decide) rfl (fun ls hl => ?_)
              refine lv_goto (tgt := 76) hx hb dX8_rules_200 (by decide) ?_
              have hl := lv_sub (l' := [(0, .ref (Z.1 30 0)), (1, .int a1), (2, .int a2), (3, .int a3), (4, .int a4), (5, .int x3), (6, .int (x6_122 + 1))]) hl [2, 3, 4, 5, 6, 1, 0] rfl
              exact ih76 w122 x3 (x6_122 + 1) _ _ _ hF hw hl
          · skip
            have hF := hF.trans (if_neg c1)
            refine lv_iload hx hb dX8_rules_128 (lv_at hl 7 rfl) ?_
            refine lv_if_eq (tgt := 170) hx hb dX8_rules_130 (by decide) (fun c4 => ?_) (fun c4 => ?_)
            · skip
              have hF := hF.trans (if_pos c4)
              refine lv_iconst (v := 0) hx hb dX8_rules_170 (by decide) ?_
              refine lv_istore (lv' := [(7, .int 0), (0, .ref (Z.1 30 0)), (1, .int a1), (2, .int a2), (3, .int a3), (4, .int a4), (5, .int x5_122), (6, .int x6_122), (8, .int x8_122)]) hx hb dX8_rules_171 hl (by decide) rfl (fun ls hl => ?_)
              refine lv_iinc (v := x8_122 + 1) (lv' := [(8, .int (x8_122 + 1)), (7, .int 0), (0, .ref (Z.1 30 0)), (1, .int a1), (2, .int a2), (3, .int a3), (4, .int a4), (5, .int x5_122), (6, .int x6_122)]) hx hb dX8_rules_173 hl (k := 8) rfl rfl (by decide) rfl (fun ls hl => ?_)
              refine lv_goto (tgt := 122) hx hb dX8_rules_176 (by decide) ?_
              have hl := lv_sub (l' := [(0, .ref (Z.1 30 0)), (1, .int a1), (2, .int a2), (3, .int a3), (4, .int a4), (5, .int x5_122), (6, .int x6_122), (7, .int 0), (8, .int (x8_122 + 1))]) hl [2, 3, 4, 5, 6, 7, 8, 1, 0] rfl
              exact ih122 w122 x5_122 x6_122 0 (x8_122 + 1) _ _ _ hF hw hl
            · skip
              have hF := hF.trans (if_neg c4)
              refine lv_aload_n hx hb dX8_rules_133 rfl (lv_at hl 0 rfl) ?_
              refine km_get (ci := 8) (C := RX8) (T := TX8) (N := 23) (t := 30) (i := 0) hx hb hts fi_X8_rules_X8 hown hK hw (by decide) (by decide) rfl rfl 15 (by decide) (hts (.fieldLink RX8 31 "WrongWordModel" "tried" "[I") ow_X8_rules_31) rfl dX8_rules_134 ?_
              refine lv_aload_n hx hb dX8_rules_137 rfl (lv_at hl 0 rfl) ?_
              refine km_get (ci := 8) (C := RX8) (T := TX8) (N := 23) (t := 30) (i := 0) hx hb hts fi_X8_rules_X8 hown hK hw (by decide) (by decide) rfl rfl 13 (by decide) (hts (.fieldLink RX8 25 "WrongWordModel" "now" "[I") ow_X8_rules_25) rfl dX8_rules_138 ?_
              refine lv_iconst (v := 5) hx hb dX8_rules_141 (by decide) ?_
              refine km_iald (t := 36) (i := 0) hx hb hK hw (by decide) (by decide) rfl (by unfold vp_in; decide) dX8_rules_142 ?_
              refine lv_iload hx hb dX8_rules_143 (lv_at hl 8 rfl) ?_
              refine lv_iadd hx hb dX8_rules_145 ?_
              have hs5 : g_X8_secretOf_38 w122 ((w122 36 0 (Int32.toNatClampNeg 5)) + x8_122) ≠ none := fun q => hs (hF.trans (kb_n q _))
              refine km_cS (As := [.ref (Z.1 38 0), .int ((w122 36 0 (Int32.toNatClampNeg 5)) + x8_122)]) (rest := []) (n := 2) ⟨hx, hb, hml, hown, hts⟩ (d_X8_secretOf_38 l E Z w122 ((w122 36 0 (Int32.toNatClampNeg 5)) + x8_122) hs5) gX8_rules_X8_secretOf rfl hV_X8_secretOf ⟨Nat.le_of_ble_eq_true rfl, Nat.le_of_ble_eq_true rfl⟩ hK hw rfl hl.1 rfl (Nat.le_of_ble_eq_true rfl) dX8_rules_146 rfl rfl (fun r6 v7 H locs hp hw => ?_)
              obtain ⟨hp, rfl⟩ := hp
              have hF := hF.trans (kb_some hp _)
              refine lv_aload_n hx hb dX8_rules_149 rfl (lv_at hl 0 rfl) ?_
              refine km_get (ci := 8) (C := RX8) (T := TX8) (N := 23) (t := 30) (i := 0) hx hb hts fi_X8_rules_X8 hown hK hw (by decide) (by decide) rfl rfl 2 (by decide) (hts (.fieldLink RX8 16 "WrongWordModel" "items" "[I") ow_X8_rules_16) rfl dX8_rules_150 ?_
              refine lv_bipush (v := 40) hx hb dX8_rules_153 (by decide) ?_
              refine lv_iload_n hx hb dX8_rules_155 rfl (lv_at hl 1 rfl) ?_
              refine lv_imul hx hb dX8_rules_156 ?_
              refine lv_iload_n hx hb dX8_rules_157 rfl (lv_at hl 2 rfl) ?_
              refine lv_iadd hx hb dX8_rules_158 ?_
              refine lv_iload hx hb dX8_rules_159 (lv_at hl 8 rfl) ?_
              refine lv_iadd hx hb dX8_rules_161 ?_
              have hb8 : ¬ ((((40 : Int32) * a1) + a2) + x8_122 < 0 ∨ 320 ≤ Int32.toNatClampNeg ((((40 : Int32) * a1) + a2) + x8_122)) := fun q => hs (hF.trans (if_pos q))
              have hF := hF.trans (if_neg hb8)
              refine km_iald (t := 33) (i := 0) hx hb hK hw (by decide) (by decide) rfl hb8 dX8_rules_162 ?_
              refine lv_icmp_ne (tgt := 170) hx hb dX8_rules_163 (by decide) (fun c9 => ?_) (fun c9 => ?_)
              · skip
                have hF := hF.trans (if_neg c9)
                refine lv_iconst (v := 0) hx hb dX8_rules_170 (by decide) ?_
                refine lv_istore (lv' := [(7, .int 0), (0, .ref (Z.1 30 0)), (1, .int a1), (2, .int a2), (3, .int a3), (4, .int a4), (5, .int x5_122), (6, .int x6_122), (8, .int x8_122)]) hx hb dX8_rules_171 hl (by decide) rfl (fun ls hl => ?_)
                refine lv_iinc (v := x8_122 + 1) (lv' := [(8, .int (x8_122 + 1)), (7, .int 0), (0, .ref (Z.1 30 0)), (1, .int a1), (2, .int a2), (3, .int a3), (4, .int a4), (5, .int x5_122), (6, .int x6_122)]) hx hb dX8_rules_173 hl (k := 8) rfl rfl (by decide) rfl (fun ls hl => ?_)
                refine lv_goto (tgt := 122) hx hb dX8_rules_176 (by decide) ?_
                have hl := lv_sub (l' := [(0, .ref (Z.1 30 0)), (1, .int a1), (2, .int a2), (3, .int a3), (4, .int a4), (5, .int x5_122), (6, .int x6_122), (7, .int 0), (8, .int (x8_122 + 1))]) hl [2, 3, 4, 5, 6, 7, 8, 1, 0] rfl
                exact ih122 w122 x5_122 x6_122 0 (x8_122 + 1) _ _ _ hF hw hl
              · skip
                have hF := hF.trans (if_pos c9)
                refine lv_iconst (v := 1) hx hb dX8_rules_166 (by decide) ?_
                refine lv_goto (tgt := 171) hx hb dX8_rules_167 (by decide) ?_
                refine lv_istore (lv' := [(7, .int 1), (0, .ref (Z.1 30 0)), (1, .int a1), (2, .int a2), (3, .int a3), (4, .int a4), (5, .int x5_122), (6, .int x6_122), (8, .int x8_122)]) hx hb dX8_rules_171 hl (by decide) rfl (fun ls hl => ?_)
                refine lv_iinc (v := x8_122 + 1) (lv' := [(8, .int (x8_122 + 1)), (7, .int 1), (0, .ref (Z.1 30 0)), (1, .int a1), (2, .int a2), (3, .int a3), (4, .int a4), (5, .int x5_122), (6, .int x6_122)]) hx hb dX8_rules_173 hl (k := 8) rfl rfl (by decide) rfl (fun ls hl => ?_)
                refine lv_goto (tgt := 122) hx hb dX8_rules_176 (by decide) ?_
                have hl := lv_sub (l' := [(0, .ref (Z.1 30 0)), (1, .int a1), (2, .int a2), (3, .int a3), (4, .int a4), (5, .int x5_122), (6, .int x6_122), (7, .int 1), (8, .int (x8_122 + 1))]) hl [2, 3, 4, 5, 6, 7, 8, 1, 0] rfl
                exact ih122 w122 x5_122 x6_122 1 (x8_122 + 1) _ _ _ hF hw hl
      refine lv_iload hx hb dX8_rules_76 (lv_at hl 6 rfl) ?_
      refine lv_iload hx hb dX8_rules_78 (lv_at hl 4 rfl) ?_
      refine lv_iconst (v := 2) hx hb dX8_rules_80 (by decide) ?_
      refine lv_icmp_ne (tgt := 89) hx hb dX8_rules_81 (by decide) (fun c10 => ?_) (fun c10 => ?_)
      · skip
        have hF := hF.trans (if_neg c10)
        refine lv_bipush (v := 9) hx hb dX8_rules_89 (by decide) ?_
        refine lv_icmp_gt (tgt := 203) hx hb dX8_rules_91 (by decide) (fun c11 => ?_) (fun c11 => ?_)
        · skip
          have hF := hF.trans (if_pos c11)
          refine lv_aload_n hx hb dX8_rules_203 rfl (lv_at hl 0 rfl) ?_
          refine lv_iload hx hb dX8_rules_204 (lv_at hl 5 rfl) ?_
          have hs12 : g_X8_well w76 x5_76 ≠ none := fun q => hs (hF.trans (kb2_n q _))
          refine km_cI (As := [.int x5_76]) (rest := []) (n := 1) (q := (RX8, TX8, 23)) (ci := 8) (t := 30) (i := 0) ⟨hx, hb, hml, hown, hts⟩ (d_X8_well l E Z w76 x5_76 hs12) gX8_rules_X8_well rfl hV_X8_well ⟨Nat.le_of_ble_eq_true rfl, Nat.le_of_ble_eq_true rfl⟩ hK hw (by decide) (by decide) rfl rfl rfl hl.1 rfl (Nat.le_of_ble_eq_true rfl) dX8_rules_206 rfl rfl (fun r13 v14 H locs hp hw => ?_)
          have hF := hF.trans (kb2_some hp _)
          exact hret _ _ _ _ _ _ hw dX8_rules_209 hF
        · skip
          have hF := hF.trans (if_neg c11)
          refine lv_aload_n hx hb dX8_rules_94 rfl (lv_at hl 0 rfl) ?_
          refine km_get (ci := 8) (C := RX8) (T := TX8) (N := 23) (t := 30) (i := 0) hx hb hts fi_X8_rules_X8 hown hK hw (by decide) (by decide) rfl rfl 13 (by decide) (hts (.fieldLink RX8 25 "WrongWordModel" "now" "[I") ow_X8_rules_25) rfl dX8_rules_95 ?_
          refine lv_iconst (v := 0) hx hb dX8_rules_98 (by decide) ?_
          refine lv_aload_n hx hb dX8_rules_99 rfl (lv_at hl 0 rfl) ?_
          refine km_get (ci := 8) (C := RX8) (T := TX8) (N := 23) (t := 30) (i := 0) hx hb hts fi_X8_rules_X8 hown hK hw (by decide) (by decide) rfl rfl 15 (by decide) (hts (.fieldLink RX8 31 "WrongWordModel" "tried" "[I") ow_X8_rules_31) rfl dX8_rules_100 ?_
          refine lv_iconst (v := 0) hx hb dX8_rules_103 (by decide) ?_
          have hs15 : g_X8_copies_36_38 w76 0 0 ≠ none := fun q => hs (hF.trans (kb_n q _))
          refine km_cSV (As := [.ref (Z.1 36 0), .int 0, .ref (Z.1 38 0), .int 0]) (rest := []) (n := 4) ⟨hx, hb, hml, hown, hts⟩ (d_X8_copies_36_38 l E Z w76 0 0 hs15) gX8_rules_X8_copies rfl hV_X8_copies ⟨Nat.le_of_ble_eq_true rfl, Nat.le_of_ble_eq_true rfl⟩ hK hw rfl hl.1 rfl (Nat.le_of_ble_eq_true rfl) dX8_rules_104 rfl rfl (fun v17 H locs hp hw => ?_)
          have hF := hF.trans (kb_some hp _)
          refine lv_aload_n hx hb dX8_rules_107 rfl (lv_at hl 0 rfl) ?_
          refine km_get (ci := 8) (C := RX8) (T := TX8) (N := 23) (t := 30) (i := 0) hx hb hts fi_X8_rules_X8 hown hK hw (by decide) (by decide) rfl rfl 15 (by decide) (hts (.fieldLink RX8 31 "WrongWordModel" "tried" "[I") ow_X8_rules_31) rfl dX8_rules_108 ?_
          refine lv_iload hx hb dX8_rules_111 (lv_at hl 4 rfl) ?_
          refine lv_iload hx hb dX8_rules_113 (lv_at hl 6 rfl) ?_
          have hb18 : ¬ (a4 < 0 ∨ 65 ≤ Int32.toNatClampNeg a4) := fun q => hs (hF.trans (if_pos q))
          have hF := hF.trans (if_neg hb18)
          refine km_iast (t := 38) (i := 0) (n := 65) hx hb hK hw (by decide) (by decide) (fun _ => rfl) hb18 dX8_rules_115 (fun H locs hw => ?_)
          obtain ⟨v19, ev19⟩ : ∃ z, z = up3 v17 38 0 (Int32.toNatClampNeg a4) x6_76 := ⟨_, rfl⟩
          rw [← ev19] at hw
          have hF := hF.trans (kb_some (congrArg some ev19.symm) _)
          refine lv_iconst (v := 1) hx hb dX8_rules_116 (by decide) ?_
          refine lv_istore (lv' := [(7, .int 1), (0, .ref (Z.1 30 0)), (1, .int a1), (2, .int a2), (3, .int a3), (4, .int a4), (5, .int x5_76), (6, .int x6_76)]) hx hb dX8_rules_117 hl (by decide) rfl (fun ls hl => ?_)
          refine lv_iconst (v := 0) hx hb dX8_rules_119 (by decide) ?_
          refine lv_istore (lv' := [(8, .int 0), (7, .int 1), (0, .ref (Z.1 30 0)), (1, .int a1), (2, .int a2), (3, .int a3), (4, .int a4), (5, .int x5_76), (6, .int x6_76)]) hx hb dX8_rules_120 hl (by decide) rfl (fun ls hl => ?_)
          have hl := lv_sub (l' := [(0, .ref (Z.1 30 0)), (1, .int a1), (2, .int a2), (3, .int a3), (4, .int a4), (5, .int x5_76), (6, .int x6_76), (7, .int 1), (8, .int 0)]) hl [2, 3, 4, 5, 6, 7, 8, 1, 0] rfl
          exact loop122 2000 v19 x5_76 x6_76 1 0 _ _ _ hF hw hl
      · skip
        have hF := hF.trans (if_pos c10)
        refine lv_bipush (v := 6) hx hb dX8_rules_84 (by decide) ?_
        refine lv_goto (tgt := 91) hx hb dX8_rules_86 (by decide) ?_
        refine lv_icmp_gt (tgt := 203) hx hb dX8_rules_91 (by decide) (fun c20 => ?_) (fun c20 => ?_)
        · skip
          have hF := hF.trans (if_pos c20)
          refine lv_aload_n hx hb dX8_rules_203 rfl (lv_at hl 0 rfl) ?_
          refine lv_iload hx hb dX8_rules_204 (lv_at hl 5 rfl) ?_
          have hs21 : g_X8_well w76 x5_76 ≠ none := fun q => hs (hF.trans (kb2_n q _))
          refine km_cI (As := [.int x5_76]) (rest := []) (n := 1) (q := (RX8, TX8, 23)) (ci := 8) (t := 30) (i := 0) ⟨hx, hb, hml, hown, hts⟩ (d_X8_well l E Z w76 x5_76 hs21) gX8_rules_X8_well rfl hV_X8_well ⟨Nat.le_of_ble_eq_true rfl, Nat.le_of_ble_eq_true rfl⟩ hK hw (by decide) (by decide) rfl rfl rfl hl.1 rfl (Nat.le_of_ble_eq_true rfl) dX8_rules_206 rfl rfl (fun r22 v23 H locs hp hw => ?_)
          have hF := hF.trans (kb2_some hp _)
          exact hret _ _ _ _ _ _ hw dX8_rules_209 hF
        · skip
          have hF := hF.trans (if_neg c20)
          refine lv_aload_n hx hb dX8_rules_94 rfl (lv_at hl 0 rfl) ?_
          refine km_get (ci := 8) (C := RX8) (T := TX8) (N := 23) (t := 30) (i := 0) hx hb hts fi_X8_rules_X8 hown hK hw (by decide) (by decide) rfl rfl 13 (by decide) (hts (.fieldLink RX8 25 "WrongWordModel" "now" "[I") ow_X8_rules_25) rfl dX8_rules_95 ?_
          refine lv_iconst (v := 0) hx hb dX8_rules_98 (by decide) ?_
          refine lv_aload_n hx hb dX8_rules_99 rfl (lv_at hl 0 rfl) ?_
          refine km_get (ci := 8) (C := RX8) (T := TX8) (N := 23) (t := 30) (i := 0) hx hb hts fi_X8_rules_X8 hown hK hw (by decide) (by decide) rfl rfl 15 (by decide) (hts (.fieldLink RX8 31 "WrongWordModel" "tried" "[I") ow_X8_rules_31) rfl dX8_rules_100 ?_
          refine lv_iconst (v := 0) hx hb dX8_rules_103 (by decide) ?_
          have hs24 : g_X8_copies_36_38 w76 0 0 ≠ none := fun q => hs (hF.trans (kb_n q _))
          refine km_cSV (As := [.ref (Z.1 36 0), .int 0, .ref (Z.1 38 0), .int 0]) (rest := []) (n := 4) ⟨hx, hb, hml, hown, hts⟩ (d_X8_copies_36_38 l E Z w76 0 0 hs24) gX8_rules_X8_copies rfl hV_X8_copies ⟨Nat.le_of_ble_eq_true rfl, Nat.le_of_ble_eq_true rfl⟩ hK hw rfl hl.1 rfl (Nat.le_of_ble_eq_true rfl) dX8_rules_104 rfl rfl (fun v26 H locs hp hw => ?_)
          have hF := hF.trans (kb_some hp _)
          refine lv_aload_n hx hb dX8_rules_107 rfl (lv_at hl 0 rfl) ?_
          refine km_get (ci := 8) (C := RX8) (T := TX8) (N := 23) (t := 30) (i := 0) hx hb hts fi_X8_rules_X8 hown hK hw (by decide) (by decide) rfl rfl 15 (by decide) (hts (.fieldLink RX8 31 "WrongWordModel" "tried" "[I") ow_X8_rules_31) rfl dX8_rules_108 ?_
          refine lv_iload hx hb dX8_rules_111 (lv_at hl 4 rfl) ?_
          refine lv_iload hx hb dX8_rules_113 (lv_at hl 6 rfl) ?_
          have hb27 : ¬ (a4 < 0 ∨ 65 ≤ Int32.toNatClampNeg a4) := fun q => hs (hF.trans (if_pos q))
          have hF := hF.trans (if_neg hb27)
          refine km_iast (t := 38) (i := 0) (n := 65) hx hb hK hw (by decide) (by decide) (fun _ => rfl) hb27 dX8_rules_115 (fun H locs hw => ?_)
          obtain ⟨v28, ev28⟩ : ∃ z, z = up3 v26 38 0 (Int32.toNatClampNeg a4) x6_76 := ⟨_, rfl⟩
          rw [← ev28] at hw
          have hF := hF.trans (kb_some (congrArg some ev28.symm) _)
          refine lv_iconst (v := 1) hx hb dX8_rules_116 (by decide) ?_
          refine lv_istore (lv' := [(7, .int 1), (0, .ref (Z.1 30 0)), (1, .int a1), (2, .int a2), (3, .int a3), (4, .int a4), (5, .int x5_76), (6, .int x6_76)]) hx hb dX8_rules_117 hl (by decide) rfl (fun ls hl => ?_)
          refine lv_iconst (v := 0) hx hb dX8_rules_119 (by decide) ?_
          refine lv_istore (lv' := [(8, .int 0), (7, .int 1), (0, .ref (Z.1 30 0)), (1, .int a1), (2, .int a2), (3, .int a3), (4, .int a4), (5, .int x5_76), (6, .int x6_76)]) hx hb dX8_rules_120 hl (by decide) rfl (fun ls hl => ?_)
          have hl := lv_sub (l' := [(0, .ref (Z.1 30 0)), (1, .int a1), (2, .int a2), (3, .int a3), (4, .int a4), (5, .int x5_76), (6, .int x6_76), (7, .int 1), (8, .int 0)]) hl [2, 3, 4, 5, 6, 7, 8, 1, 0] rfl
          exact loop122 2000 v28 x5_76 x6_76 1 0 _ _ _ hF hw hl
  refine lv_aload_n hx hb dX8_rules_0 rfl (lv_at hl 0 rfl) ?_
  have hs29 : g_X8_isGate v ≠ none := fun q => hs (hF.trans (kb_n q _))
  refine km_cI (As := []) (rest := []) (n := 0) (q := (RX8, TX8, 23)) (ci := 8) (t := 30) (i := 0) ⟨hx, hb, hml, hown, hts⟩ (d_X8_isGate l E Z v  hs29) gX8_rules_X8_isGate rfl hV_X8_isGate ⟨Nat.le_of_ble_eq_true rfl, Nat.le_of_ble_eq_true rfl⟩ hK hw (by decide) (by decide) rfl rfl rfl hl.1 rfl (Nat.le_of_ble_eq_true rfl) dX8_rules_1 rfl rfl (fun r30 v31 H locs hp hw => ?_)
  obtain ⟨hp, hzr30⟩ := hp
  obtain ⟨hp, rfl⟩ := hp
  have hF := hF.trans (kb_some hp _)
  refine lv_if_ne (tgt := 10) hx hb dX8_rules_4 (by decide) (fun c32 => ?_) (fun c32 => ?_)
  · skip
    have hF := hF.trans (if_neg c32)
    refine lv_iload_n hx hb dX8_rules_10 rfl (lv_at hl 1 rfl) ?_
    have hs33 : g_X8_isRow v a1 ≠ none := fun q => hs (hF.trans (kb_n q _))
    refine km_cS (As := [.int a1]) (rest := []) (n := 1) ⟨hx, hb, hml, hown, hts⟩ (d_X8_isRow l E Z v a1 hs33) gX8_rules_X8_isRow rfl hV_X8_isRow ⟨Nat.le_of_ble_eq_true rfl, Nat.le_of_ble_eq_true rfl⟩ hK hw rfl hl.1 rfl (Nat.le_of_ble_eq_true rfl) dX8_rules_11 rfl rfl (fun r34 v35 H locs hp hw => ?_)
    obtain ⟨hp, hzr34⟩ := hp
    obtain ⟨hp, rfl⟩ := hp
    have hF := hF.trans (kb_some hp _)
    refine lv_if_eq (tgt := 37) hx hb dX8_rules_14 (by decide) (fun c36 => ?_) (fun c36 => ?_)
    · skip
      have hF := hF.trans (if_pos c36)
      refine lv_ldc (v := (-1000001)) hx hb hown (hts (.constant RX8 64 (-1000001)) ow_X8_rules_64) dX8_rules_37 ?_
      exact hret _ _ _ _ _ _ hw dX8_rules_39 hF
    · skip
      have hF := hF.trans (if_neg c36)
      refine lv_iload_n hx hb dX8_rules_17 rfl (lv_at hl 3 rfl) ?_
      refine lv_iconst (v := 1) hx hb dX8_rules_18 (by decide) ?_
      refine lv_bipush (v := 16) hx hb dX8_rules_19 (by decide) ?_
      have hs37 : g_X8_in v a3 1 16 ≠ none := fun q => hs (hF.trans (kb_n q _))
      refine km_cS (As := [.int a3, .int 1, .int 16]) (rest := []) (n := 3) ⟨hx, hb, hml, hown, hts⟩ (d_X8_in l E Z v a3 1 16 hs37) gX8_rules_X8_in rfl hV_X8_in ⟨Nat.le_of_ble_eq_true rfl, Nat.le_of_ble_eq_true rfl⟩ hK hw rfl hl.1 rfl (Nat.le_of_ble_eq_true rfl) dX8_rules_21 rfl rfl (fun r38 v39 H locs hp hw => ?_)
      obtain ⟨hp, hzr38⟩ := hp
      obtain ⟨hp, rfl⟩ := hp
      have hF := hF.trans (kb_some hp _)
      refine lv_if_eq (tgt := 37) hx hb dX8_rules_24 (by decide) (fun c40 => ?_) (fun c40 => ?_)
      · skip
        have hF := hF.trans (if_pos c40)
        refine lv_ldc (v := (-1000001)) hx hb hown (hts (.constant RX8 64 (-1000001)) ow_X8_rules_64) dX8_rules_37 ?_
        exact hret _ _ _ _ _ _ hw dX8_rules_39 hF
      · skip
        have hF := hF.trans (if_neg c40)
        refine lv_iload hx hb dX8_rules_27 (lv_at hl 4 rfl) ?_
        refine lv_iconst (v := 0) hx hb dX8_rules_29 (by decide) ?_
        refine lv_iconst (v := 2) hx hb dX8_rules_30 (by decide) ?_
        have hs41 : g_X8_in v a4 0 2 ≠ none := fun q => hs (hF.trans (kb_n q _))
        refine km_cS (As := [.int a4, .int 0, .int 2]) (rest := []) (n := 3) ⟨hx, hb, hml, hown, hts⟩ (d_X8_in l E Z v a4 0 2 hs41) gX8_rules_X8_in rfl hV_X8_in ⟨Nat.le_of_ble_eq_true rfl, Nat.le_of_ble_eq_true rfl⟩ hK hw rfl hl.1 rfl (Nat.le_of_ble_eq_true rfl) dX8_rules_31 rfl rfl (fun r42 v43 H locs hp hw => ?_)
        obtain ⟨hp, hzr42⟩ := hp
        obtain ⟨hp, rfl⟩ := hp
        have hF := hF.trans (kb_some hp _)
        refine lv_if_ne (tgt := 40) hx hb dX8_rules_34 (by decide) (fun c44 => ?_) (fun c44 => ?_)
        · skip
          have hF := hF.trans (if_neg c44)
          refine lv_aload_n hx hb dX8_rules_40 rfl (lv_at hl 0 rfl) ?_
          refine lv_iload_n hx hb dX8_rules_41 rfl (lv_at hl 1 rfl) ?_
          have hs45 : g_X8_isMissing v a1 ≠ none := fun q => hs (hF.trans (kb_n q _))
          refine km_cI (As := [.int a1]) (rest := []) (n := 1) (q := (RX8, TX8, 23)) (ci := 8) (t := 30) (i := 0) ⟨hx, hb, hml, hown, hts⟩ (d_X8_isMissing l E Z v a1 hs45) gX8_rules_X8_isMissing rfl hV_X8_isMissing ⟨Nat.le_of_ble_eq_true rfl, Nat.le_of_ble_eq_true rfl⟩ hK hw (by decide) (by decide) rfl rfl rfl hl.1 rfl (Nat.le_of_ble_eq_true rfl) dX8_rules_42 rfl rfl (fun r46 v47 H locs hp hw => ?_)
          obtain ⟨hp, hzr46⟩ := hp
          obtain ⟨hp, rfl⟩ := hp
          have hF := hF.trans (kb_some hp _)
          refine lv_if_eq (tgt := 54) hx hb dX8_rules_45 (by decide) (fun c48 => ?_) (fun c48 => ?_)
          · skip
            have hF := hF.trans (if_pos c48)
            refine lv_aload_n hx hb dX8_rules_54 rfl (lv_at hl 0 rfl) ?_
            refine lv_iload_n hx hb dX8_rules_55 rfl (lv_at hl 1 rfl) ?_
            refine lv_iload_n hx hb dX8_rules_56 rfl (lv_at hl 2 rfl) ?_
            refine lv_iload_n hx hb dX8_rules_57 rfl (lv_at hl 3 rfl) ?_
            have hs49 : g_X8_isPart v a1 a2 a3 ≠ none := fun q => hs (hF.trans (kb_n q _))
            refine km_cI (As := [.int a1, .int a2, .int a3]) (rest := []) (n := 3) (q := (RX8, TX8, 23)) (ci := 8) (t := 30) (i := 0) ⟨hx, hb, hml, hown, hts⟩ (d_X8_isPart l E Z v a1 a2 a3 hs49) gX8_rules_X8_isPart rfl hV_X8_isPart ⟨Nat.le_of_ble_eq_true rfl, Nat.le_of_ble_eq_true rfl⟩ hK hw (by decide) (by decide) rfl rfl rfl hl.1 rfl (Nat.le_of_ble_eq_true rfl) dX8_rules_58 rfl rfl (fun r50 v51 H locs hp hw => ?_)
            obtain ⟨hp, hzr50⟩ := hp
            obtain ⟨hp, rfl⟩ := hp
            have hF := hF.trans (kb_some hp _)
            refine lv_if_ne (tgt := 70) hx hb dX8_rules_61 (by decide) (fun c52 => ?_) (fun c52 => ?_)
            · skip
              have hF := hF.trans (if_neg c52)
              refine lv_iconst (v := 0) hx hb dX8_rules_70 (by decide) ?_
              refine lv_istore (lv' := [(5, .int 0), (0, .ref (Z.1 30 0)), (1, .int a1), (2, .int a2), (3, .int a3), (4, .int a4)]) hx hb dX8_rules_71 hl (by decide) rfl (fun ls hl => ?_)
              refine lv_iconst (v := 0) hx hb dX8_rules_73 (by decide) ?_
              refine lv_istore (lv' := [(6, .int 0), (5, .int 0), (0, .ref (Z.1 30 0)), (1, .int a1), (2, .int a2), (3, .int a3), (4, .int a4)]) hx hb dX8_rules_74 hl (by decide) rfl (fun ls hl => ?_)
              have hl := lv_sub (l' := [(0, .ref (Z.1 30 0)), (1, .int a1), (2, .int a2), (3, .int a3), (4, .int a4), (5, .int 0), (6, .int 0)]) hl [2, 3, 4, 5, 6, 1, 0] rfl
              exact loop76 2000 v 0 0 _ _ _ hF hw hl
            · skip
              have hF := hF.trans (if_pos c52)
              refine lv_aload_n hx hb dX8_rules_64 rfl (lv_at hl 0 rfl) ?_
              refine lv_iconst (v := 2) hx hb dX8_rules_65 (by decide) ?_
              have hs53 : g_X8_found v 2 ≠ none := fun q => hs (hF.trans (kb2_n q _))
              refine km_cI (As := [.int 2]) (rest := []) (n := 1) (q := (RX8, TX8, 23)) (ci := 8) (t := 30) (i := 0) ⟨hx, hb, hml, hown, hts⟩ (d_X8_found l E Z v 2 hs53) gX8_rules_X8_found rfl hV_X8_found ⟨Nat.le_of_ble_eq_true rfl, Nat.le_of_ble_eq_true rfl⟩ hK hw (by decide) (by decide) rfl rfl rfl hl.1 rfl (Nat.le_of_ble_eq_true rfl) dX8_rules_66 rfl rfl (fun r54 v55 H locs hp hw => ?_)
              have hF := hF.trans (kb2_some hp _)
              exact hret _ _ _ _ _ _ hw dX8_rules_69 hF
          · skip
            have hF := hF.trans (if_neg c48)
            refine lv_aload_n hx hb dX8_rules_48 rfl (lv_at hl 0 rfl) ?_
            refine lv_iconst (v := 1) hx hb dX8_rules_49 (by decide) ?_
            have hs56 : g_X8_found v 1 ≠ none := fun q => hs (hF.trans (kb2_n q _))
            refine km_cI (As := [.int 1]) (rest := []) (n := 1) (q := (RX8, TX8, 23)) (ci := 8) (t := 30) (i := 0) ⟨hx, hb, hml, hown, hts⟩ (d_X8_found l E Z v 1 hs56) gX8_rules_X8_found rfl hV_X8_found ⟨Nat.le_of_ble_eq_true rfl, Nat.le_of_ble_eq_true rfl⟩ hK hw (by decide) (by decide) rfl rfl rfl hl.1 rfl (Nat.le_of_ble_eq_true rfl) dX8_rules_50 rfl rfl (fun r57 v58 H locs hp hw => ?_)
            have hF := hF.trans (kb2_some hp _)
            exact hret _ _ _ _ _ _ hw dX8_rules_53 hF
        · skip
          have hF := hF.trans (if_pos c44)
          refine lv_ldc (v := (-1000001)) hx hb hown (hts (.constant RX8 64 (-1000001)) ow_X8_rules_64) dX8_rules_37 ?_
          exact hret _ _ _ _ _ _ hw dX8_rules_39 hF
  · skip
    have hF := hF.trans (if_pos c32)
    refine lv_ldc (v := (-1000002)) hx hb hown (hts (.constant RX8 183 (-1000002)) ow_X8_rules_183) dX8_rules_7 ?_
    exact hret _ _ _ _ _ _ hw dX8_rules_9 hF
abbrev rmX8_takesSo : Room := { frames := 2, cells := 0, slots := 0, locals := 48 }
def b_X8_takesSo_L6  (rec6 : Int32 → Int32 → Option (Int32)) (v : Mm) (a1 : Int32) (a2 : Int32) (a3 : Int32) (x4_6 : Int32) (x5_6 : Int32) : Option (Int32) := if v 36 0 (Int32.toNatClampNeg 3) ≤ x5_6 then (some x4_6) else (if x4_6 = 0 then (rec6 0 (x5_6 + 1)) else (Option.bind (g_X8_takesBy v a1 x5_6 a2 (v 36 0 (Int32.toNatClampNeg 5))) (fun r4 => if r4 = 0 then (if a3 + x5_6 < 0 ∨ 320 ≤ Int32.toNatClampNeg (a3 + x5_6) then none else (if 0 = v 33 0 (Int32.toNatClampNeg (a3 + x5_6)) then (rec6 1 (x5_6 + 1)) else (rec6 0 (x5_6 + 1)))) else (if a3 + x5_6 < 0 ∨ 320 ≤ Int32.toNatClampNeg (a3 + x5_6) then none else (if 1 = v 33 0 (Int32.toNatClampNeg (a3 + x5_6)) then (rec6 1 (x5_6 + 1)) else (rec6 0 (x5_6 + 1)))))))
def g_X8_takesSo_L6  (v : Mm) (a1 : Int32) (a2 : Int32) (a3 : Int32) : Nat → Int32 → Int32 → Option (Int32)
  | 0 => fun _ _ => none
  | n + 1 => b_X8_takesSo_L6  (g_X8_takesSo_L6  v a1 a2 a3 n) v a1 a2 a3
def g_X8_takesSo (v : Mm) (a1 : Int32) (a2 : Int32) (a3 : Int32) : Option (Int32) := g_X8_takesSo_L6  v a1 a2 a3 2000 1 0
set_option maxHeartbeats 4000000 in
set_option maxRecDepth 100000 in
theorem d_X8_takesSo (l : Launch) (E : kq_T) (Z : km_Z) (v : Mm) (a1 : Int32) (a2 : Int32) (a3 : Int32) (hs : g_X8_takesSo v a1 a2 a3 ≠ none) : km_I l E Z cntM yX8_takesSo wsX8_takesSo rmX8_takesSo [.ref (Z.1 30 0), .int a1, .int a2, .int a3] v (fun r v1 => (g_X8_takesSo v a1 a2 a3 = some r ∧ v = v1) ∧ (r = 0 ∨ r = 1)) := by
  refine km_goZ (cc := cX8_takesSo) (maxL := 6) (post := fun r v1 => g_X8_takesSo v a1 a2 a3 = some r ∧ v = v1) (by decide) rfl (Nat.le_of_ble_eq_true rfl) rfl rfl rfl ?_
  intro p e s m below meth c A ls Q C hK hw hl hret
  obtain ⟨hx, hb, hml, hown, hts, -, -, -⟩ := C
  have hown : s.vm.findClass RX8 = some m.cls := hown
  have hl : lv_has ls 6 [(0, .ref (Z.1 30 0)), (1, .int a1), (2, .int a2), (3, .int a3)] := hl
  have hF := g_X8_takesSo.eq_1 v a1 a2 a3
  have loop6 : ∀ (n6 : Nat) (x4_6 : Int32) (x5_6 : Int32) (H : Heap) (locs : List Loc) (ls : Array Slot), g_X8_takesSo v a1 a2 a3 = g_X8_takesSo_L6  v a1 a2 a3 n6 x4_6 x5_6 → km_w E A s.heap [] Z cntM v H locs → lv_has ls 6 [(0, .ref (Z.1 30 0)), (1, .int a1), (2, .int a2), (3, .int a3), (4, .int x4_6), (5, .int x5_6)] → (x4_6 = 0 ∨ x4_6 = 1) → W p l e rmX8_takesSo s m [.ref (Z.1 30 0), .int a1, .int a2, .int a3].toArray below meth c H locs 0 0 Q (F0 m 6 ls []) := by
    intro n6
    induction n6 with
    | zero => intro x4_6 x5_6 H locs ls hF hw hl hz4_6; exact absurd (show g_X8_takesSo v a1 a2 a3 = none from hF) hs
    | succ n6 ih6 =>
      intro x4_6 x5_6 H locs ls hF hw hl hz4_6
      have hF := hF.trans (b_X8_takesSo_L6.eq_1  (g_X8_takesSo_L6  v a1 a2 a3 n6) v a1 a2 a3 x4_6 x5_6)
      refine lv_iload hx hb dX8_takesSo_6 (lv_at hl 5 rfl) ?_
      refine lv_aload_n hx hb dX8_takesSo_8 rfl (lv_at hl 0 rfl) ?_
      refine km_get (ci := 8) (C := RX8) (T := TX8) (N := 23) (t := 30) (i := 0) hx hb hts fi_X8_takesSo_X8 hown hK hw (by decide) (by decide) rfl rfl 13 (by decide) (hts (.fieldLink RX8 25 "WrongWordModel" "now" "[I") ow_X8_takesSo_25) rfl dX8_takesSo_9 ?_
      refine lv_iconst (v := 3) hx hb dX8_takesSo_12 (by decide) ?_
      refine km_iald (t := 36) (i := 0) hx hb hK hw (by decide) (by decide) rfl (by unfold vp_in; decide) dX8_takesSo_13 ?_
      refine lv_icmp_ge (tgt := 69) hx hb dX8_takesSo_14 (by decide) (fun c1 => ?_) (fun c1 => ?_)
      · skip
        have hF := hF.trans (if_pos c1)
        refine lv_iload hx hb dX8_takesSo_69 (lv_at hl 4 rfl) ?_
        exact hret _ _ _ _ _ _ hw dX8_takesSo_71 hz4_6 ⟨hF, rfl⟩
      · skip
        have hF := hF.trans (if_neg c1)
        refine lv_iload hx hb dX8_takesSo_17 (lv_at hl 4 rfl) ?_
        refine lv_if_eq (tgt := 60) hx hb dX8_takesSo_19 (by decide) (fun c2 => ?_) (fun c2 => ?_)
        · skip
          have hF := hF.trans (if_pos c2)
          refine lv_iconst (v := 0) hx hb dX8_takesSo_60 (by decide) ?_
          refine lv_istore (lv' := [(4, .int 0), (0, .ref (Z.1 30 0)), (1, .int a1), (2, .int a2), (3, .int a3), (5, .int x5_6)]) hx hb dX8_takesSo_61 hl (by decide) rfl (fun ls hl => ?_)
          refine lv_iinc (v := x5_6 + 1) (lv' := [(5, .int (x5_6 + 1)), (4, .int 0), (0, .ref (Z.1 30 0)), (1, .int a1), (2, .int a2), (3, .int a3)]) hx hb dX8_takesSo_63 hl (k := 5) rfl rfl (by decide) rfl (fun ls hl => ?_)
          refine lv_goto (tgt := 6) hx hb dX8_takesSo_66 (by decide) ?_
          have hl := lv_sub (l' := [(0, .ref (Z.1 30 0)), (1, .int a1), (2, .int a2), (3, .int a3), (4, .int 0), (5, .int (x5_6 + 1))]) hl [2, 3, 4, 5, 1, 0] rfl
          exact ih6 0 (x5_6 + 1) _ _ _ hF hw hl (Or.inl rfl)
        · skip
          have hF := hF.trans (if_neg c2)
          refine lv_aload_n hx hb dX8_takesSo_22 rfl (lv_at hl 0 rfl) ?_
          refine lv_iload_n hx hb dX8_takesSo_23 rfl (lv_at hl 1 rfl) ?_
          refine lv_iload hx hb dX8_takesSo_24 (lv_at hl 5 rfl) ?_
          refine lv_iload_n hx hb dX8_takesSo_26 rfl (lv_at hl 2 rfl) ?_
          refine lv_aload_n hx hb dX8_takesSo_27 rfl (lv_at hl 0 rfl) ?_
          refine km_get (ci := 8) (C := RX8) (T := TX8) (N := 23) (t := 30) (i := 0) hx hb hts fi_X8_takesSo_X8 hown hK hw (by decide) (by decide) rfl rfl 13 (by decide) (hts (.fieldLink RX8 25 "WrongWordModel" "now" "[I") ow_X8_takesSo_25) rfl dX8_takesSo_28 ?_
          refine lv_iconst (v := 5) hx hb dX8_takesSo_31 (by decide) ?_
          refine km_iald (t := 36) (i := 0) hx hb hK hw (by decide) (by decide) rfl (by unfold vp_in; decide) dX8_takesSo_32 ?_
          have hs3 : g_X8_takesBy v a1 x5_6 a2 (v 36 0 (Int32.toNatClampNeg 5)) ≠ none := fun q => hs (hF.trans (kb_n q _))
          refine km_cI (As := [.int a1, .int x5_6, .int a2, .int (v 36 0 (Int32.toNatClampNeg 5))]) (rest := []) (n := 4) (q := (RX8, TX8, 23)) (ci := 8) (t := 30) (i := 0) ⟨hx, hb, hml, hown, hts⟩ (d_X8_takesBy l E Z v a1 x5_6 a2 (v 36 0 (Int32.toNatClampNeg 5)) hs3) gX8_takesSo_X8_takesBy rfl hV_X8_takesBy ⟨Nat.le_of_ble_eq_true rfl, Nat.le_of_ble_eq_true rfl⟩ hK hw (by decide) (by decide) rfl rfl rfl hl.1 rfl (Nat.le_of_ble_eq_true rfl) dX8_takesSo_33 rfl rfl (fun r4 v5 H locs hp hw => ?_)
          obtain ⟨hp, hzr4⟩ := hp
          obtain ⟨hp, rfl⟩ := hp
          have hF := hF.trans (kb_some hp _)
          refine lv_if_eq (tgt := 43) hx hb dX8_takesSo_36 (by decide) (fun c6 => ?_) (fun c6 => ?_)
          · skip
            have hF := hF.trans (if_pos c6)
            refine lv_iconst (v := 0) hx hb dX8_takesSo_43 (by decide) ?_
            refine lv_aload_n hx hb dX8_takesSo_44 rfl (lv_at hl 0 rfl) ?_
            refine km_get (ci := 8) (C := RX8) (T := TX8) (N := 23) (t := 30) (i := 0) hx hb hts fi_X8_takesSo_X8 hown hK hw (by decide) (by decide) rfl rfl 2 (by decide) (hts (.fieldLink RX8 16 "WrongWordModel" "items" "[I") ow_X8_takesSo_16) rfl dX8_takesSo_45 ?_
            refine lv_iload_n hx hb dX8_takesSo_48 rfl (lv_at hl 3 rfl) ?_
            refine lv_iload hx hb dX8_takesSo_49 (lv_at hl 5 rfl) ?_
            refine lv_iadd hx hb dX8_takesSo_51 ?_
            have hb7 : ¬ (a3 + x5_6 < 0 ∨ 320 ≤ Int32.toNatClampNeg (a3 + x5_6)) := fun q => hs (hF.trans (if_pos q))
            have hF := hF.trans (if_neg hb7)
            refine km_iald (t := 33) (i := 0) hx hb hK hw (by decide) (by decide) rfl hb7 dX8_takesSo_52 ?_
            refine lv_icmp_ne (tgt := 60) hx hb dX8_takesSo_53 (by decide) (fun c8 => ?_) (fun c8 => ?_)
            · skip
              have hF := hF.trans (if_neg c8)
              refine lv_iconst (v := 0) hx hb dX8_takesSo_60 (by decide) ?_
              refine lv_istore (lv' := [(4, .int 0), (0, .ref (Z.1 30 0)), (1, .int a1), (2, .int a2), (3, .int a3), (5, .int x5_6)]) hx hb dX8_takesSo_61 hl (by decide) rfl (fun ls hl => ?_)
              refine lv_iinc (v := x5_6 + 1) (lv' := [(5, .int (x5_6 + 1)), (4, .int 0), (0, .ref (Z.1 30 0)), (1, .int a1), (2, .int a2), (3, .int a3)]) hx hb dX8_takesSo_63 hl (k := 5) rfl rfl (by decide) rfl (fun ls hl => ?_)
              refine lv_goto (tgt := 6) hx hb dX8_takesSo_66 (by decide) ?_
              have hl := lv_sub (l' := [(0, .ref (Z.1 30 0)), (1, .int a1), (2, .int a2), (3, .int a3), (4, .int 0), (5, .int (x5_6 + 1))]) hl [2, 3, 4, 5, 1, 0] rfl
              exact ih6 0 (x5_6 + 1) _ _ _ hF hw hl (Or.inl rfl)
            · skip
              have hF := hF.trans (if_pos c8)
              refine lv_iconst (v := 1) hx hb dX8_takesSo_56 (by decide) ?_
              refine lv_goto (tgt := 61) hx hb dX8_takesSo_57 (by decide) ?_
              refine lv_istore (lv' := [(4, .int 1), (0, .ref (Z.1 30 0)), (1, .int a1), (2, .int a2), (3, .int a3), (5, .int x5_6)]) hx hb dX8_takesSo_61 hl (by decide) rfl (fun ls hl => ?_)
              refine lv_iinc (v := x5_6 + 1) (lv' := [(5, .int (x5_6 + 1)), (4, .int 1), (0, .ref (Z.1 30 0)), (1, .int a1), (2, .int a2), (3, .int a3)]) hx hb dX8_takesSo_63 hl (k := 5) rfl rfl (by decide) rfl (fun ls hl => ?_)
              refine lv_goto (tgt := 6) hx hb dX8_takesSo_66 (by decide) ?_
              have hl := lv_sub (l' := [(0, .ref (Z.1 30 0)), (1, .int a1), (2, .int a2), (3, .int a3), (4, .int 1), (5, .int (x5_6 + 1))]) hl [2, 3, 4, 5, 1, 0] rfl
              exact ih6 1 (x5_6 + 1) _ _ _ hF hw hl (Or.inr rfl)
          · skip
            have hF := hF.trans (if_neg c6)
            refine lv_iconst (v := 1) hx hb dX8_takesSo_39 (by decide) ?_
            refine lv_goto (tgt := 44) hx hb dX8_takesSo_40 (by decide) ?_
            refine lv_aload_n hx hb dX8_takesSo_44 rfl (lv_at hl 0 rfl) ?_
            refine km_get (ci := 8) (C := RX8) (T := TX8) (N := 23) (t := 30) (i := 0) hx hb hts fi_X8_takesSo_X8 hown hK hw (by decide) (by decide) rfl rfl 2 (by decide) (hts (.fieldLink RX8 16 "WrongWordModel" "items" "[I") ow_X8_takesSo_16) rfl dX8_takesSo_45 ?_
            refine lv_iload_n hx hb dX8_takesSo_48 rfl (lv_at hl 3 rfl) ?_
            refine lv_iload hx hb dX8_takesSo_49 (lv_at hl 5 rfl) ?_
            refine lv_iadd hx hb dX8_takesSo_51 ?_
            have hb9 : ¬ (a3 + x5_6 < 0 ∨ 320 ≤ Int32.toNatClampNeg (a3 + x5_6)) := fun q => hs (hF.trans (if_pos q))
            have hF := hF.trans (if_neg hb9)
            refine km_iald (t := 33) (i := 0) hx hb hK hw (by decide) (by decide) rfl hb9 dX8_takesSo_52 ?_
            refine lv_icmp_ne (tgt := 60) hx hb dX8_takesSo_53 (by decide) (fun c10 => ?_) (fun c10 => ?_)
            · skip
              have hF := hF.trans (if_neg c10)
              refine lv_iconst (v := 0) hx hb dX8_takesSo_60 (by decide) ?_
              refine lv_istore (lv' := [(4, .int 0), (0, .ref (Z.1 30 0)), (1, .int a1), (2, .int a2), (3, .int a3), (5, .int x5_6)]) hx hb dX8_takesSo_61 hl (by decide) rfl (fun ls hl => ?_)
              refine lv_iinc (v := x5_6 + 1) (lv' := [(5, .int (x5_6 + 1)), (4, .int 0), (0, .ref (Z.1 30 0)), (1, .int a1), (2, .int a2), (3, .int a3)]) hx hb dX8_takesSo_63 hl (k := 5) rfl rfl (by decide) rfl (fun ls hl => ?_)
              refine lv_goto (tgt := 6) hx hb dX8_takesSo_66 (by decide) ?_
              have hl := lv_sub (l' := [(0, .ref (Z.1 30 0)), (1, .int a1), (2, .int a2), (3, .int a3), (4, .int 0), (5, .int (x5_6 + 1))]) hl [2, 3, 4, 5, 1, 0] rfl
              exact ih6 0 (x5_6 + 1) _ _ _ hF hw hl (Or.inl rfl)
            · skip
              have hF := hF.trans (if_pos c10)
              refine lv_iconst (v := 1) hx hb dX8_takesSo_56 (by decide) ?_
              refine lv_goto (tgt := 61) hx hb dX8_takesSo_57 (by decide) ?_
              refine lv_istore (lv' := [(4, .int 1), (0, .ref (Z.1 30 0)), (1, .int a1), (2, .int a2), (3, .int a3), (5, .int x5_6)]) hx hb dX8_takesSo_61 hl (by decide) rfl (fun ls hl => ?_)
              refine lv_iinc (v := x5_6 + 1) (lv' := [(5, .int (x5_6 + 1)), (4, .int 1), (0, .ref (Z.1 30 0)), (1, .int a1), (2, .int a2), (3, .int a3)]) hx hb dX8_takesSo_63 hl (k := 5) rfl rfl (by decide) rfl (fun ls hl => ?_)
              refine lv_goto (tgt := 6) hx hb dX8_takesSo_66 (by decide) ?_
              have hl := lv_sub (l' := [(0, .ref (Z.1 30 0)), (1, .int a1), (2, .int a2), (3, .int a3), (4, .int 1), (5, .int (x5_6 + 1))]) hl [2, 3, 4, 5, 1, 0] rfl
              exact ih6 1 (x5_6 + 1) _ _ _ hF hw hl (Or.inr rfl)
  refine lv_iconst (v := 1) hx hb dX8_takesSo_0 (by decide) ?_
  refine lv_istore (lv' := [(4, .int 1), (0, .ref (Z.1 30 0)), (1, .int a1), (2, .int a2), (3, .int a3)]) hx hb dX8_takesSo_1 hl (by decide) rfl (fun ls hl => ?_)
  refine lv_iconst (v := 0) hx hb dX8_takesSo_3 (by decide) ?_
  refine lv_istore (lv' := [(5, .int 0), (4, .int 1), (0, .ref (Z.1 30 0)), (1, .int a1), (2, .int a2), (3, .int a3)]) hx hb dX8_takesSo_4 hl (by decide) rfl (fun ls hl => ?_)
  have hl := lv_sub (l' := [(0, .ref (Z.1 30 0)), (1, .int a1), (2, .int a2), (3, .int a3), (4, .int 1), (5, .int 0)]) hl [2, 3, 4, 5, 1, 0] rfl
  exact loop6 2000 1 0 _ _ _ hF hw hl (Or.inr rfl)
abbrev rmX8_fits : Room := { frames := 3, cells := 0, slots := 0, locals := 73 }
def b_X8_fits_L135  (rec135 : Mm → Int32 → Int32 → Int32 → Option (Int32 × Mm)) (a1 : Int32) (a2 : Int32) (a3 : Int32) (a4 : Int32) (w135 : Mm) (x5_135 : Int32) (x6_135 : Int32) (x7_135 : Int32) : Option (Int32 × Mm) := if w135 36 0 (Int32.toNatClampNeg 3) ≤ x7_135 then (kb2 (g_X8_well w135 x6_135) (fun r24 v25 => some (r24, v25))) else (if a4 = 1 then (Option.bind (g_X8_kindIn w135 a1) (fun r31 => Option.bind (g_X8_takesSo w135 r31 x7_135 x5_135) (fun r34 => if r34 = 0 then (rec135 w135 x5_135 (x6_135 ||| 0) (x7_135 + 1)) else (Option.bind (some (x6_135 ||| ((1 : Int32) <<< (x7_135 &&& 31)))) (fun x37 => rec135 w135 x5_135 x37 (x7_135 + 1)))))) else (kb2 (g_X8_well w135 x6_135) (fun r28 v29 => some (r28, v29))))
def g_X8_fits_L135  (a1 : Int32) (a2 : Int32) (a3 : Int32) (a4 : Int32) : Nat → Mm → Int32 → Int32 → Int32 → Option (Int32 × Mm)
  | 0 => fun _ _ _ _ => none
  | n + 1 => b_X8_fits_L135  (g_X8_fits_L135  a1 a2 a3 a4 n) a1 a2 a3 a4
def b_X8_fits_L77  (rec77 : Mm → Int32 → Int32 → Int32 → Option (Int32 × Mm)) (a1 : Int32) (a2 : Int32) (a3 : Int32) (a4 : Int32) (w77 : Mm) (x5_77 : Int32) (x6_77 : Int32) (x7_77 : Int32) : Option (Int32 × Mm) := if 6 ≤ x7_77 then (g_X8_fits_L135  a1 a2 a3 a4 2000 w77 x5_77 x6_77 0) else (if a4 = 0 then (Option.bind (g_X8_secretOf_36 w77 (w77 36 0 (Int32.toNatClampNeg 5))) (fun r24 => Option.bind (g_X8_takesSo w77 x7_77 r24 x5_77) (fun r27 => if r27 = 0 then (rec77 w77 x5_77 (x6_77 ||| 0) (x7_77 + 1)) else (Option.bind (some (x6_77 ||| ((1 : Int32) <<< (x7_77 &&& 31)))) (fun x30 => rec77 w77 x5_77 x30 (x7_77 + 1)))))) else (g_X8_fits_L135  a1 a2 a3 a4 2000 w77 x5_77 x6_77 0))
def g_X8_fits_L77  (a1 : Int32) (a2 : Int32) (a3 : Int32) (a4 : Int32) : Nat → Mm → Int32 → Int32 → Int32 → Option (Int32 × Mm)
  | 0 => fun _ _ _ _ => none
  | n + 1 => b_X8_fits_L77  (g_X8_fits_L77  a1 a2 a3 a4 n) a1 a2 a3 a4
def g_X8_fits (v : Mm) (a1 : Int32) (a2 : Int32) (a3 : Int32) (a4 : Int32) : Option (Int32 × Mm) := Option.bind (g_X8_isGuard v a1) (fun r2 => if r2 = 0 then (some ((-1000001), v)) else (Option.bind (g_X8_isRow v a2) (fun r6 => if r6 = 0 then (some ((-1000001), v)) else (Option.bind (g_X8_in v a4 0 1) (fun r10 => if r10 = 0 then (some ((-1000001), v)) else (Option.bind (g_X8_isMissing v a2) (fun r14 => if r14 = 0 then (Option.bind (g_X8_isPart v a2 a3 (v 36 0 (Int32.toNatClampNeg 3))) (fun r18 => if r18 = 0 then (kb2 (g_X8_found v 2) (fun r22 v23 => some (r22, v23))) else (g_X8_fits_L77  a1 a2 a3 a4 2000 v (((40 : Int32) * a2) + a3) 0 1))) else (kb2 (g_X8_found v 1) (fun r25 v26 => some (r25, v26))))))))))
set_option maxHeartbeats 4000000 in
set_option maxRecDepth 100000 in
theorem d_X8_fits (l : Launch) (E : kq_T) (Z : km_Z) (v : Mm) (a1 : Int32) (a2 : Int32) (a3 : Int32) (a4 : Int32) (hs : g_X8_fits v a1 a2 a3 a4 ≠ none) : km_I l E Z cntM yX8_fits wsX8_fits rmX8_fits [.ref (Z.1 30 0), .int a1, .int a2, .int a3, .int a4] v (fun r v1 => g_X8_fits v a1 a2 a3 a4 = some (r, v1)) := by
  refine km_goI (cc := cX8_fits) (maxL := 8) (by decide) rfl (Nat.le_of_ble_eq_true rfl) rfl rfl rfl ?_
  intro p e s m below meth c A ls Q C hK hw hl hret
  obtain ⟨hx, hb, hml, hown, hts, -, -, -⟩ := C
  have hown : s.vm.findClass RX8 = some m.cls := hown
  have hl : lv_has ls 8 [(0, .ref (Z.1 30 0)), (1, .int a1), (2, .int a2), (3, .int a3), (4, .int a4)] := hl
  have hF := g_X8_fits.eq_1 v a1 a2 a3 a4
  have loop135 : ∀ (n135 : Nat) (w135 : Mm) (x5_135 : Int32) (x6_135 : Int32) (x7_135 : Int32) (H : Heap) (locs : List Loc) (ls : Array Slot), g_X8_fits v a1 a2 a3 a4 = g_X8_fits_L135  a1 a2 a3 a4 n135 w135 x5_135 x6_135 x7_135 → km_w E A s.heap [] Z cntM w135 H locs → lv_has ls 8 [(0, .ref (Z.1 30 0)), (1, .int a1), (2, .int a2), (3, .int a3), (4, .int a4), (5, .int x5_135), (6, .int x6_135), (7, .int x7_135)] → W p l e rmX8_fits s m [.ref (Z.1 30 0), .int a1, .int a2, .int a3, .int a4].toArray below meth c H locs 0 0 Q (F0 m 135 ls []) := by
    intro n135
    induction n135 with
    | zero => intro w135 x5_135 x6_135 x7_135 H locs ls hF hw hl; exact absurd (show g_X8_fits v a1 a2 a3 a4 = none from hF) hs
    | succ n135 ih135 =>
      intro w135 x5_135 x6_135 x7_135 H locs ls hF hw hl
      have hF := hF.trans (b_X8_fits_L135.eq_1  (g_X8_fits_L135  a1 a2 a3 a4 n135) a1 a2 a3 a4 w135 x5_135 x6_135 x7_135)
      refine lv_iload hx hb dX8_fits_135 (lv_at hl 7 rfl) ?_
      refine lv_aload_n hx hb dX8_fits_137 rfl (lv_at hl 0 rfl) ?_
      refine km_get (ci := 8) (C := RX8) (T := TX8) (N := 23) (t := 30) (i := 0) hx hb hts fi_X8_fits_X8 hown hK hw (by decide) (by decide) rfl rfl 13 (by decide) (hts (.fieldLink RX8 25 "WrongWordModel" "now" "[I") ow_X8_fits_25) rfl dX8_fits_138 ?_
      refine lv_iconst (v := 3) hx hb dX8_fits_141 (by decide) ?_
      refine km_iald (t := 36) (i := 0) hx hb hK hw (by decide) (by decide) rfl (by unfold vp_in; decide) dX8_fits_142 ?_
      refine lv_icmp_ge (tgt := 187) hx hb dX8_fits_143 (by decide) (fun c1 => ?_) (fun c1 => ?_)
      · skip
        have hF := hF.trans (if_pos c1)
        refine lv_aload_n hx hb dX8_fits_187 rfl (lv_at hl 0 rfl) ?_
        refine lv_iload hx hb dX8_fits_188 (lv_at hl 6 rfl) ?_
        have hs2 : g_X8_well w135 x6_135 ≠ none := fun q => hs (hF.trans (kb2_n q _))
        refine km_cI (As := [.int x6_135]) (rest := []) (n := 1) (q := (RX8, TX8, 23)) (ci := 8) (t := 30) (i := 0) ⟨hx, hb, hml, hown, hts⟩ (d_X8_well l E Z w135 x6_135 hs2) gX8_fits_X8_well rfl hV_X8_well ⟨Nat.le_of_ble_eq_true rfl, Nat.le_of_ble_eq_true rfl⟩ hK hw (by decide) (by decide) rfl rfl rfl hl.1 rfl (Nat.le_of_ble_eq_true rfl) dX8_fits_190 rfl rfl (fun r3 v4 H locs hp hw => ?_)
        have hF := hF.trans (kb2_some hp _)
        exact hret _ _ _ _ _ _ hw dX8_fits_193 hF
      · skip
        have hF := hF.trans (if_neg c1)
        refine lv_iload hx hb dX8_fits_146 (lv_at hl 4 rfl) ?_
        refine lv_iconst (v := 1) hx hb dX8_fits_148 (by decide) ?_
        refine lv_icmp_ne (tgt := 187) hx hb dX8_fits_149 (by decide) (fun c5 => ?_) (fun c5 => ?_)
        · skip
          have hF := hF.trans (if_neg c5)
          refine lv_aload_n hx hb dX8_fits_187 rfl (lv_at hl 0 rfl) ?_
          refine lv_iload hx hb dX8_fits_188 (lv_at hl 6 rfl) ?_
          have hs6 : g_X8_well w135 x6_135 ≠ none := fun q => hs (hF.trans (kb2_n q _))
          refine km_cI (As := [.int x6_135]) (rest := []) (n := 1) (q := (RX8, TX8, 23)) (ci := 8) (t := 30) (i := 0) ⟨hx, hb, hml, hown, hts⟩ (d_X8_well l E Z w135 x6_135 hs6) gX8_fits_X8_well rfl hV_X8_well ⟨Nat.le_of_ble_eq_true rfl, Nat.le_of_ble_eq_true rfl⟩ hK hw (by decide) (by decide) rfl rfl rfl hl.1 rfl (Nat.le_of_ble_eq_true rfl) dX8_fits_190 rfl rfl (fun r7 v8 H locs hp hw => ?_)
          have hF := hF.trans (kb2_some hp _)
          exact hret _ _ _ _ _ _ hw dX8_fits_193 hF
        · skip
          have hF := hF.trans (if_pos c5)
          refine lv_iload hx hb dX8_fits_152 (lv_at hl 6 rfl) ?_
          refine lv_aload_n hx hb dX8_fits_154 rfl (lv_at hl 0 rfl) ?_
          refine lv_aload_n hx hb dX8_fits_155 rfl (lv_at hl 0 rfl) ?_
          refine lv_iload_n hx hb dX8_fits_156 rfl (lv_at hl 1 rfl) ?_
          have hs9 : g_X8_kindIn w135 a1 ≠ none := fun q => hs (hF.trans (kb_n q _))
          refine km_cI (As := [.int a1]) (rest := [.ref (Z.1 30 0), .int x6_135]) (n := 1) (q := (RX8, TX8, 23)) (ci := 8) (t := 30) (i := 0) ⟨hx, hb, hml, hown, hts⟩ (d_X8_kindIn l E Z w135 a1 hs9) gX8_fits_X8_kindIn rfl hV_X8_kindIn ⟨Nat.le_of_ble_eq_true rfl, Nat.le_of_ble_eq_true rfl⟩ hK hw (by decide) (by decide) rfl rfl rfl hl.1 rfl (Nat.le_of_ble_eq_true rfl) dX8_fits_157 rfl rfl (fun r10 v11 H locs hp hw => ?_)
          obtain ⟨hp, rfl⟩ := hp
          have hF := hF.trans (kb_some hp _)
          refine lv_iload hx hb dX8_fits_160 (lv_at hl 7 rfl) ?_
          refine lv_iload hx hb dX8_fits_162 (lv_at hl 5 rfl) ?_
          have hs12 : g_X8_takesSo w135 r10 x7_135 x5_135 ≠ none := fun q => hs (hF.trans (kb_n q _))
          refine km_cI (As := [.int r10, .int x7_135, .int x5_135]) (rest := [.int x6_135]) (n := 3) (q := (RX8, TX8, 23)) (ci := 8) (t := 30) (i := 0) ⟨hx, hb, hml, hown, hts⟩ (d_X8_takesSo l E Z w135 r10 x7_135 x5_135 hs12) gX8_fits_X8_takesSo rfl hV_X8_takesSo ⟨Nat.le_of_ble_eq_true rfl, Nat.le_of_ble_eq_true rfl⟩ hK hw (by decide) (by decide) rfl rfl rfl hl.1 rfl (Nat.le_of_ble_eq_true rfl) dX8_fits_164 rfl rfl (fun r13 v14 H locs hp hw => ?_)
          obtain ⟨hp, hzr13⟩ := hp
          obtain ⟨hp, rfl⟩ := hp
          have hF := hF.trans (kb_some hp _)
          refine lv_if_eq (tgt := 177) hx hb dX8_fits_167 (by decide) (fun c15 => ?_) (fun c15 => ?_)
          · skip
            have hF := hF.trans (if_pos c15)
            refine lv_iconst (v := 0) hx hb dX8_fits_177 (by decide) ?_
            refine lv_ior hx hb dX8_fits_178 ?_
            refine lv_istore (lv' := [(6, .int (x6_135 ||| 0)), (0, .ref (Z.1 30 0)), (1, .int a1), (2, .int a2), (3, .int a3), (4, .int a4), (5, .int x5_135), (7, .int x7_135)]) hx hb dX8_fits_179 hl (by decide) rfl (fun ls hl => ?_)
            refine lv_iinc (v := x7_135 + 1) (lv' := [(7, .int (x7_135 + 1)), (6, .int (x6_135 ||| 0)), (0, .ref (Z.1 30 0)), (1, .int a1), (2, .int a2), (3, .int a3), (4, .int a4), (5, .int x5_135)]) hx hb dX8_fits_181 hl (k := 7) rfl rfl (by decide) rfl (fun ls hl => ?_)
            refine lv_goto (tgt := 135) hx hb dX8_fits_184 (by decide) ?_
            have hl := lv_sub (l' := [(0, .ref (Z.1 30 0)), (1, .int a1), (2, .int a2), (3, .int a3), (4, .int a4), (5, .int x5_135), (6, .int (x6_135 ||| 0)), (7, .int (x7_135 + 1))]) hl [2, 3, 4, 5, 6, 7, 1, 0] rfl
            exact ih135 w135 x5_135 (x6_135 ||| 0) (x7_135 + 1) _ _ _ hF hw hl
          · skip
            have hF := hF.trans (if_neg c15)
            refine lv_iconst (v := 1) hx hb dX8_fits_170 (by decide) ?_
            refine lv_iload hx hb dX8_fits_171 (lv_at hl 7 rfl) ?_
            refine lv_ishl hx hb dX8_fits_173 ?_
            refine lv_goto (tgt := 178) hx hb dX8_fits_174 (by decide) ?_
            refine lv_ior hx hb dX8_fits_178 ?_
            refine lv_topi (fun x16 ex16 => ?_)
            have hF := hF.trans (kb_some (congrArg some ex16.symm) _)
            refine lv_istore (lv' := [(6, .int x16), (0, .ref (Z.1 30 0)), (1, .int a1), (2, .int a2), (3, .int a3), (4, .int a4), (5, .int x5_135), (7, .int x7_135)]) hx hb dX8_fits_179 hl (by decide) rfl (fun ls hl => ?_)
            refine lv_iinc (v := x7_135 + 1) (lv' := [(7, .int (x7_135 + 1)), (6, .int x16), (0, .ref (Z.1 30 0)), (1, .int a1), (2, .int a2), (3, .int a3), (4, .int a4), (5, .int x5_135)]) hx hb dX8_fits_181 hl (k := 7) rfl rfl (by decide) rfl (fun ls hl => ?_)
            refine lv_goto (tgt := 135) hx hb dX8_fits_184 (by decide) ?_
            have hl := lv_sub (l' := [(0, .ref (Z.1 30 0)), (1, .int a1), (2, .int a2), (3, .int a3), (4, .int a4), (5, .int x5_135), (6, .int x16), (7, .int (x7_135 + 1))]) hl [2, 3, 4, 5, 6, 7, 1, 0] rfl
            exact ih135 w135 x5_135 x16 (x7_135 + 1) _ _ _ hF hw hl
  have loop77 : ∀ (n77 : Nat) (w77 : Mm) (x5_77 : Int32) (x6_77 : Int32) (x7_77 : Int32) (H : Heap) (locs : List Loc) (ls : Array Slot), g_X8_fits v a1 a2 a3 a4 = g_X8_fits_L77  a1 a2 a3 a4 n77 w77 x5_77 x6_77 x7_77 → km_w E A s.heap [] Z cntM w77 H locs → lv_has ls 8 [(0, .ref (Z.1 30 0)), (1, .int a1), (2, .int a2), (3, .int a3), (4, .int a4), (5, .int x5_77), (6, .int x6_77), (7, .int x7_77)] → W p l e rmX8_fits s m [.ref (Z.1 30 0), .int a1, .int a2, .int a3, .int a4].toArray below meth c H locs 0 0 Q (F0 m 77 ls []) := by
    intro n77
    induction n77 with
    | zero => intro w77 x5_77 x6_77 x7_77 H locs ls hF hw hl; exact absurd (show g_X8_fits v a1 a2 a3 a4 = none from hF) hs
    | succ n77 ih77 =>
      intro w77 x5_77 x6_77 x7_77 H locs ls hF hw hl
      have hF := hF.trans (b_X8_fits_L77.eq_1  (g_X8_fits_L77  a1 a2 a3 a4 n77) a1 a2 a3 a4 w77 x5_77 x6_77 x7_77)
      refine lv_iload hx hb dX8_fits_77 (lv_at hl 7 rfl) ?_
      refine lv_bipush (v := 6) hx hb dX8_fits_79 (by decide) ?_
      refine lv_icmp_ge (tgt := 132) hx hb dX8_fits_81 (by decide) (fun c17 => ?_) (fun c17 => ?_)
      · skip
        have hF := hF.trans (if_pos c17)
        refine lv_iconst (v := 0) hx hb dX8_fits_132 (by decide) ?_
        refine lv_istore (lv' := [(7, .int 0), (0, .ref (Z.1 30 0)), (1, .int a1), (2, .int a2), (3, .int a3), (4, .int a4), (5, .int x5_77), (6, .int x6_77)]) hx hb dX8_fits_133 hl (by decide) rfl (fun ls hl => ?_)
        have hl := lv_sub (l' := [(0, .ref (Z.1 30 0)), (1, .int a1), (2, .int a2), (3, .int a3), (4, .int a4), (5, .int x5_77), (6, .int x6_77), (7, .int 0)]) hl [1, 2, 3, 4, 5, 6, 7, 0] rfl
        exact loop135 2000 w77 x5_77 x6_77 0 _ _ _ hF hw hl
      · skip
        have hF := hF.trans (if_neg c17)
        refine lv_iload hx hb dX8_fits_84 (lv_at hl 4 rfl) ?_
        refine lv_if_ne (tgt := 132) hx hb dX8_fits_86 (by decide) (fun c18 => ?_) (fun c18 => ?_)
        · skip
          have hF := hF.trans (if_neg c18)
          refine lv_iconst (v := 0) hx hb dX8_fits_132 (by decide) ?_
          refine lv_istore (lv' := [(7, .int 0), (0, .ref (Z.1 30 0)), (1, .int a1), (2, .int a2), (3, .int a3), (4, .int a4), (5, .int x5_77), (6, .int x6_77)]) hx hb dX8_fits_133 hl (by decide) rfl (fun ls hl => ?_)
          have hl := lv_sub (l' := [(0, .ref (Z.1 30 0)), (1, .int a1), (2, .int a2), (3, .int a3), (4, .int a4), (5, .int x5_77), (6, .int x6_77), (7, .int 0)]) hl [1, 2, 3, 4, 5, 6, 7, 0] rfl
          exact loop135 2000 w77 x5_77 x6_77 0 _ _ _ hF hw hl
        · skip
          have hF := hF.trans (if_pos c18)
          refine lv_iload hx hb dX8_fits_89 (lv_at hl 6 rfl) ?_
          refine lv_aload_n hx hb dX8_fits_91 rfl (lv_at hl 0 rfl) ?_
          refine lv_iload hx hb dX8_fits_92 (lv_at hl 7 rfl) ?_
          refine lv_aload_n hx hb dX8_fits_94 rfl (lv_at hl 0 rfl) ?_
          refine km_get (ci := 8) (C := RX8) (T := TX8) (N := 23) (t := 30) (i := 0) hx hb hts fi_X8_fits_X8 hown hK hw (by decide) (by decide) rfl rfl 13 (by decide) (hts (.fieldLink RX8 25 "WrongWordModel" "now" "[I") ow_X8_fits_25) rfl dX8_fits_95 ?_
          refine lv_aload_n hx hb dX8_fits_98 rfl (lv_at hl 0 rfl) ?_
          refine km_get (ci := 8) (C := RX8) (T := TX8) (N := 23) (t := 30) (i := 0) hx hb hts fi_X8_fits_X8 hown hK hw (by decide) (by decide) rfl rfl 13 (by decide) (hts (.fieldLink RX8 25 "WrongWordModel" "now" "[I") ow_X8_fits_25) rfl dX8_fits_99 ?_
          refine lv_iconst (v := 5) hx hb dX8_fits_102 (by decide) ?_
          refine km_iald (t := 36) (i := 0) hx hb hK hw (by decide) (by decide) rfl (by unfold vp_in; decide) dX8_fits_103 ?_
          have hs19 : g_X8_secretOf_36 w77 (w77 36 0 (Int32.toNatClampNeg 5)) ≠ none := fun q => hs (hF.trans (kb_n q _))
          refine km_cS (As := [.ref (Z.1 36 0), .int (w77 36 0 (Int32.toNatClampNeg 5))]) (rest := [.int x7_77, .ref (Z.1 30 0), .int x6_77]) (n := 2) ⟨hx, hb, hml, hown, hts⟩ (d_X8_secretOf_36 l E Z w77 (w77 36 0 (Int32.toNatClampNeg 5)) hs19) gX8_fits_X8_secretOf rfl hV_X8_secretOf ⟨Nat.le_of_ble_eq_true rfl, Nat.le_of_ble_eq_true rfl⟩ hK hw rfl hl.1 rfl (Nat.le_of_ble_eq_true rfl) dX8_fits_104 rfl rfl (fun r20 v21 H locs hp hw => ?_)
          obtain ⟨hp, rfl⟩ := hp
          have hF := hF.trans (kb_some hp _)
          refine lv_iload hx hb dX8_fits_107 (lv_at hl 5 rfl) ?_
          have hs22 : g_X8_takesSo w77 x7_77 r20 x5_77 ≠ none := fun q => hs (hF.trans (kb_n q _))
          refine km_cI (As := [.int x7_77, .int r20, .int x5_77]) (rest := [.int x6_77]) (n := 3) (q := (RX8, TX8, 23)) (ci := 8) (t := 30) (i := 0) ⟨hx, hb, hml, hown, hts⟩ (d_X8_takesSo l E Z w77 x7_77 r20 x5_77 hs22) gX8_fits_X8_takesSo rfl hV_X8_takesSo ⟨Nat.le_of_ble_eq_true rfl, Nat.le_of_ble_eq_true rfl⟩ hK hw (by decide) (by decide) rfl rfl rfl hl.1 rfl (Nat.le_of_ble_eq_true rfl) dX8_fits_109 rfl rfl (fun r23 v24 H locs hp hw => ?_)
          obtain ⟨hp, hzr23⟩ := hp
          obtain ⟨hp, rfl⟩ := hp
          have hF := hF.trans (kb_some hp _)
          refine lv_if_eq (tgt := 122) hx hb dX8_fits_112 (by decide) (fun c25 => ?_) (fun c25 => ?_)
          · skip
            have hF := hF.trans (if_pos c25)
            refine lv_iconst (v := 0) hx hb dX8_fits_122 (by decide) ?_
            refine lv_ior hx hb dX8_fits_123 ?_
            refine lv_istore (lv' := [(6, .int (x6_77 ||| 0)), (0, .ref (Z.1 30 0)), (1, .int a1), (2, .int a2), (3, .int a3), (4, .int a4), (5, .int x5_77), (7, .int x7_77)]) hx hb dX8_fits_124 hl (by decide) rfl (fun ls hl => ?_)
            refine lv_iinc (v := x7_77 + 1) (lv' := [(7, .int (x7_77 + 1)), (6, .int (x6_77 ||| 0)), (0, .ref (Z.1 30 0)), (1, .int a1), (2, .int a2), (3, .int a3), (4, .int a4), (5, .int x5_77)]) hx hb dX8_fits_126 hl (k := 7) rfl rfl (by decide) rfl (fun ls hl => ?_)
            refine lv_goto (tgt := 77) hx hb dX8_fits_129 (by decide) ?_
            have hl := lv_sub (l' := [(0, .ref (Z.1 30 0)), (1, .int a1), (2, .int a2), (3, .int a3), (4, .int a4), (5, .int x5_77), (6, .int (x6_77 ||| 0)), (7, .int (x7_77 + 1))]) hl [2, 3, 4, 5, 6, 7, 1, 0] rfl
            exact ih77 w77 x5_77 (x6_77 ||| 0) (x7_77 + 1) _ _ _ hF hw hl
          · skip
            have hF := hF.trans (if_neg c25)
            refine lv_iconst (v := 1) hx hb dX8_fits_115 (by decide) ?_
            refine lv_iload hx hb dX8_fits_116 (lv_at hl 7 rfl) ?_
            refine lv_ishl hx hb dX8_fits_118 ?_
            refine lv_goto (tgt := 123) hx hb dX8_fits_119 (by decide) ?_
            refine lv_ior hx hb dX8_fits_123 ?_
            refine lv_topi (fun x26 ex26 => ?_)
            have hF := hF.trans (kb_some (congrArg some ex26.symm) _)
            refine lv_istore (lv' := [(6, .int x26), (0, .ref (Z.1 30 0)), (1, .int a1), (2, .int a2), (3, .int a3), (4, .int a4), (5, .int x5_77), (7, .int x7_77)]) hx hb dX8_fits_124 hl (by decide) rfl (fun ls hl => ?_)
            refine lv_iinc (v := x7_77 + 1) (lv' := [(7, .int (x7_77 + 1)), (6, .int x26), (0, .ref (Z.1 30 0)), (1, .int a1), (2, .int a2), (3, .int a3), (4, .int a4), (5, .int x5_77)]) hx hb dX8_fits_126 hl (k := 7) rfl rfl (by decide) rfl (fun ls hl => ?_)
            refine lv_goto (tgt := 77) hx hb dX8_fits_129 (by decide) ?_
            have hl := lv_sub (l' := [(0, .ref (Z.1 30 0)), (1, .int a1), (2, .int a2), (3, .int a3), (4, .int a4), (5, .int x5_77), (6, .int x26), (7, .int (x7_77 + 1))]) hl [2, 3, 4, 5, 6, 7, 1, 0] rfl
            exact ih77 w77 x5_77 x26 (x7_77 + 1) _ _ _ hF hw hl
  refine lv_aload_n hx hb dX8_fits_0 rfl (lv_at hl 0 rfl) ?_
  refine lv_iload_n hx hb dX8_fits_1 rfl (lv_at hl 1 rfl) ?_
  have hs27 : g_X8_isGuard v a1 ≠ none := fun q => hs (hF.trans (kb_n q _))
  refine km_cI (As := [.int a1]) (rest := []) (n := 1) (q := (RX8, TX8, 23)) (ci := 8) (t := 30) (i := 0) ⟨hx, hb, hml, hown, hts⟩ (d_X8_isGuard l E Z v a1 hs27) gX8_fits_X8_isGuard rfl hV_X8_isGuard ⟨Nat.le_of_ble_eq_true rfl, Nat.le_of_ble_eq_true rfl⟩ hK hw (by decide) (by decide) rfl rfl rfl hl.1 rfl (Nat.le_of_ble_eq_true rfl) dX8_fits_2 rfl rfl (fun r28 v29 H locs hp hw => ?_)
  obtain ⟨hp, hzr28⟩ := hp
  obtain ⟨hp, rfl⟩ := hp
  have hF := hF.trans (kb_some hp _)
  refine lv_if_eq (tgt := 25) hx hb dX8_fits_5 (by decide) (fun c30 => ?_) (fun c30 => ?_)
  · skip
    have hF := hF.trans (if_pos c30)
    refine lv_ldc (v := (-1000001)) hx hb hown (hts (.constant RX8 64 (-1000001)) ow_X8_fits_64) dX8_fits_25 ?_
    exact hret _ _ _ _ _ _ hw dX8_fits_27 hF
  · skip
    have hF := hF.trans (if_neg c30)
    refine lv_iload_n hx hb dX8_fits_8 rfl (lv_at hl 2 rfl) ?_
    have hs31 : g_X8_isRow v a2 ≠ none := fun q => hs (hF.trans (kb_n q _))
    refine km_cS (As := [.int a2]) (rest := []) (n := 1) ⟨hx, hb, hml, hown, hts⟩ (d_X8_isRow l E Z v a2 hs31) gX8_fits_X8_isRow rfl hV_X8_isRow ⟨Nat.le_of_ble_eq_true rfl, Nat.le_of_ble_eq_true rfl⟩ hK hw rfl hl.1 rfl (Nat.le_of_ble_eq_true rfl) dX8_fits_9 rfl rfl (fun r32 v33 H locs hp hw => ?_)
    obtain ⟨hp, hzr32⟩ := hp
    obtain ⟨hp, rfl⟩ := hp
    have hF := hF.trans (kb_some hp _)
    refine lv_if_eq (tgt := 25) hx hb dX8_fits_12 (by decide) (fun c34 => ?_) (fun c34 => ?_)
    · skip
      have hF := hF.trans (if_pos c34)
      refine lv_ldc (v := (-1000001)) hx hb hown (hts (.constant RX8 64 (-1000001)) ow_X8_fits_64) dX8_fits_25 ?_
      exact hret _ _ _ _ _ _ hw dX8_fits_27 hF
    · skip
      have hF := hF.trans (if_neg c34)
      refine lv_iload hx hb dX8_fits_15 (lv_at hl 4 rfl) ?_
      refine lv_iconst (v := 0) hx hb dX8_fits_17 (by decide) ?_
      refine lv_iconst (v := 1) hx hb dX8_fits_18 (by decide) ?_
      have hs35 : g_X8_in v a4 0 1 ≠ none := fun q => hs (hF.trans (kb_n q _))
      refine km_cS (As := [.int a4, .int 0, .int 1]) (rest := []) (n := 3) ⟨hx, hb, hml, hown, hts⟩ (d_X8_in l E Z v a4 0 1 hs35) gX8_fits_X8_in rfl hV_X8_in ⟨Nat.le_of_ble_eq_true rfl, Nat.le_of_ble_eq_true rfl⟩ hK hw rfl hl.1 rfl (Nat.le_of_ble_eq_true rfl) dX8_fits_19 rfl rfl (fun r36 v37 H locs hp hw => ?_)
      obtain ⟨hp, hzr36⟩ := hp
      obtain ⟨hp, rfl⟩ := hp
      have hF := hF.trans (kb_some hp _)
      refine lv_if_ne (tgt := 28) hx hb dX8_fits_22 (by decide) (fun c38 => ?_) (fun c38 => ?_)
      · skip
        have hF := hF.trans (if_neg c38)
        refine lv_aload_n hx hb dX8_fits_28 rfl (lv_at hl 0 rfl) ?_
        refine lv_iload_n hx hb dX8_fits_29 rfl (lv_at hl 2 rfl) ?_
        have hs39 : g_X8_isMissing v a2 ≠ none := fun q => hs (hF.trans (kb_n q _))
        refine km_cI (As := [.int a2]) (rest := []) (n := 1) (q := (RX8, TX8, 23)) (ci := 8) (t := 30) (i := 0) ⟨hx, hb, hml, hown, hts⟩ (d_X8_isMissing l E Z v a2 hs39) gX8_fits_X8_isMissing rfl hV_X8_isMissing ⟨Nat.le_of_ble_eq_true rfl, Nat.le_of_ble_eq_true rfl⟩ hK hw (by decide) (by decide) rfl rfl rfl hl.1 rfl (Nat.le_of_ble_eq_true rfl) dX8_fits_30 rfl rfl (fun r40 v41 H locs hp hw => ?_)
        obtain ⟨hp, hzr40⟩ := hp
        obtain ⟨hp, rfl⟩ := hp
        have hF := hF.trans (kb_some hp _)
        refine lv_if_eq (tgt := 42) hx hb dX8_fits_33 (by decide) (fun c42 => ?_) (fun c42 => ?_)
        · skip
          have hF := hF.trans (if_pos c42)
          refine lv_aload_n hx hb dX8_fits_42 rfl (lv_at hl 0 rfl) ?_
          refine lv_iload_n hx hb dX8_fits_43 rfl (lv_at hl 2 rfl) ?_
          refine lv_iload_n hx hb dX8_fits_44 rfl (lv_at hl 3 rfl) ?_
          refine lv_aload_n hx hb dX8_fits_45 rfl (lv_at hl 0 rfl) ?_
          refine km_get (ci := 8) (C := RX8) (T := TX8) (N := 23) (t := 30) (i := 0) hx hb hts fi_X8_fits_X8 hown hK hw (by decide) (by decide) rfl rfl 13 (by decide) (hts (.fieldLink RX8 25 "WrongWordModel" "now" "[I") ow_X8_fits_25) rfl dX8_fits_46 ?_
          refine lv_iconst (v := 3) hx hb dX8_fits_49 (by decide) ?_
          refine km_iald (t := 36) (i := 0) hx hb hK hw (by decide) (by decide) rfl (by unfold vp_in; decide) dX8_fits_50 ?_
          have hs43 : g_X8_isPart v a2 a3 (v 36 0 (Int32.toNatClampNeg 3)) ≠ none := fun q => hs (hF.trans (kb_n q _))
          refine km_cI (As := [.int a2, .int a3, .int (v 36 0 (Int32.toNatClampNeg 3))]) (rest := []) (n := 3) (q := (RX8, TX8, 23)) (ci := 8) (t := 30) (i := 0) ⟨hx, hb, hml, hown, hts⟩ (d_X8_isPart l E Z v a2 a3 (v 36 0 (Int32.toNatClampNeg 3)) hs43) gX8_fits_X8_isPart rfl hV_X8_isPart ⟨Nat.le_of_ble_eq_true rfl, Nat.le_of_ble_eq_true rfl⟩ hK hw (by decide) (by decide) rfl rfl rfl hl.1 rfl (Nat.le_of_ble_eq_true rfl) dX8_fits_51 rfl rfl (fun r44 v45 H locs hp hw => ?_)
          obtain ⟨hp, hzr44⟩ := hp
          obtain ⟨hp, rfl⟩ := hp
          have hF := hF.trans (kb_some hp _)
          refine lv_if_ne (tgt := 63) hx hb dX8_fits_54 (by decide) (fun c46 => ?_) (fun c46 => ?_)
          · skip
            have hF := hF.trans (if_neg c46)
            refine lv_bipush (v := 40) hx hb dX8_fits_63 (by decide) ?_
            refine lv_iload_n hx hb dX8_fits_65 rfl (lv_at hl 2 rfl) ?_
            refine lv_imul hx hb dX8_fits_66 ?_
            refine lv_iload_n hx hb dX8_fits_67 rfl (lv_at hl 3 rfl) ?_
            refine lv_iadd hx hb dX8_fits_68 ?_
            refine lv_istore (lv' := [(5, .int (((40 : Int32) * a2) + a3)), (0, .ref (Z.1 30 0)), (1, .int a1), (2, .int a2), (3, .int a3), (4, .int a4)]) hx hb dX8_fits_69 hl (by decide) rfl (fun ls hl => ?_)
            refine lv_iconst (v := 0) hx hb dX8_fits_71 (by decide) ?_
            refine lv_istore (lv' := [(6, .int 0), (5, .int (((40 : Int32) * a2) + a3)), (0, .ref (Z.1 30 0)), (1, .int a1), (2, .int a2), (3, .int a3), (4, .int a4)]) hx hb dX8_fits_72 hl (by decide) rfl (fun ls hl => ?_)
            refine lv_iconst (v := 1) hx hb dX8_fits_74 (by decide) ?_
            refine lv_istore (lv' := [(7, .int 1), (6, .int 0), (5, .int (((40 : Int32) * a2) + a3)), (0, .ref (Z.1 30 0)), (1, .int a1), (2, .int a2), (3, .int a3), (4, .int a4)]) hx hb dX8_fits_75 hl (by decide) rfl (fun ls hl => ?_)
            have hl := lv_sub (l' := [(0, .ref (Z.1 30 0)), (1, .int a1), (2, .int a2), (3, .int a3), (4, .int a4), (5, .int (((40 : Int32) * a2) + a3)), (6, .int 0), (7, .int 1)]) hl [3, 4, 5, 6, 7, 2, 1, 0] rfl
            exact loop77 2000 v (((40 : Int32) * a2) + a3) 0 1 _ _ _ hF hw hl
          · skip
            have hF := hF.trans (if_pos c46)
            refine lv_aload_n hx hb dX8_fits_57 rfl (lv_at hl 0 rfl) ?_
            refine lv_iconst (v := 2) hx hb dX8_fits_58 (by decide) ?_
            have hs47 : g_X8_found v 2 ≠ none := fun q => hs (hF.trans (kb2_n q _))
            refine km_cI (As := [.int 2]) (rest := []) (n := 1) (q := (RX8, TX8, 23)) (ci := 8) (t := 30) (i := 0) ⟨hx, hb, hml, hown, hts⟩ (d_X8_found l E Z v 2 hs47) gX8_fits_X8_found rfl hV_X8_found ⟨Nat.le_of_ble_eq_true rfl, Nat.le_of_ble_eq_true rfl⟩ hK hw (by decide) (by decide) rfl rfl rfl hl.1 rfl (Nat.le_of_ble_eq_true rfl) dX8_fits_59 rfl rfl (fun r48 v49 H locs hp hw => ?_)
            have hF := hF.trans (kb2_some hp _)
            exact hret _ _ _ _ _ _ hw dX8_fits_62 hF
        · skip
          have hF := hF.trans (if_neg c42)
          refine lv_aload_n hx hb dX8_fits_36 rfl (lv_at hl 0 rfl) ?_
          refine lv_iconst (v := 1) hx hb dX8_fits_37 (by decide) ?_
          have hs50 : g_X8_found v 1 ≠ none := fun q => hs (hF.trans (kb2_n q _))
          refine km_cI (As := [.int 1]) (rest := []) (n := 1) (q := (RX8, TX8, 23)) (ci := 8) (t := 30) (i := 0) ⟨hx, hb, hml, hown, hts⟩ (d_X8_found l E Z v 1 hs50) gX8_fits_X8_found rfl hV_X8_found ⟨Nat.le_of_ble_eq_true rfl, Nat.le_of_ble_eq_true rfl⟩ hK hw (by decide) (by decide) rfl rfl rfl hl.1 rfl (Nat.le_of_ble_eq_true rfl) dX8_fits_38 rfl rfl (fun r51 v52 H locs hp hw => ?_)
          have hF := hF.trans (kb2_some hp _)
          exact hret _ _ _ _ _ _ hw dX8_fits_41 hF
      · skip
        have hF := hF.trans (if_pos c38)
        refine lv_ldc (v := (-1000001)) hx hb hown (hts (.constant RX8 64 (-1000001)) ow_X8_fits_64) dX8_fits_25 ?_
        exact hret _ _ _ _ _ _ hw dX8_fits_27 hF
abbrev rmX8_sure : Room := { frames := 4, cells := 0, slots := 0, locals := 99 }
def b_X8_sure_L102  (rec102 : Int32 → Int32 → Int32 → Int32 → Int32 → Int32 → Option (Int32)) (v : Mm) (a1 : Int32) (a2 : Int32) (a3 : Int32) (a4 : Int32) (x5_102 : Int32) (x6_102 : Int32) (x7_102 : Int32) (x8_102 : Int32) (x9_102 : Int32) (x10_102 : Int32) : Option (Int32) := if x10_102 = 0 then (if a4 = 0 then (if x9_102 = 0 then none else (some (x7_102 / x9_102))) else (if x9_102 = 0 then none else (some (x8_102 / x9_102)))) else (if x10_102 = 0 then none else (rec102 x5_102 x6_102 x7_102 x8_102 x10_102 (x9_102 - x9_102 / x10_102 * x10_102)))
def g_X8_sure_L102  (v : Mm) (a1 : Int32) (a2 : Int32) (a3 : Int32) (a4 : Int32) : Nat → Int32 → Int32 → Int32 → Int32 → Int32 → Int32 → Option (Int32)
  | 0 => fun _ _ _ _ _ _ => none
  | n + 1 => b_X8_sure_L102  (g_X8_sure_L102  v a1 a2 a3 a4 n) v a1 a2 a3 a4
def g_X8_sure (v : Mm) (a1 : Int32) (a2 : Int32) (a3 : Int32) (a4 : Int32) : Option (Int32) := Option.bind (g_X8_isWord v a1) (fun r2 => if r2 = 0 then (some ((-1000001))) else (Option.bind (g_X8_isHour v a2) (fun r6 => if r6 = 0 then (some ((-1000001))) else (Option.bind (g_X8_in v a3 0 10) (fun r10 => if r10 = 0 then (some ((-1000001))) else (Option.bind (g_X8_in v a4 0 1) (fun r14 => if r14 = 0 then (some ((-1000001))) else (Option.bind (g_X8_agreeing v) (fun r18 => Option.bind (g_X8_takenOf v r18 a1 a2) (fun r21 => Option.bind (g_X8_ones v r21) (fun r24 => Option.bind (g_X8_ones v r18) (fun r27 => if r18 = 0 then (g_X8_sure_L102  v a1 a2 a3 a4 2000 r18 r24 ((r24 * a3) + ((r27 - r24) * 10)) 1 ((r24 * a3) + ((r27 - r24) * 10)) 1) else (Option.bind (g_X8_ones v r18) (fun r31 => g_X8_sure_L102  v a1 a2 a3 a4 2000 r18 r24 ((r24 * a3) + ((r27 - r24) * 10)) ((10 : Int32) * r31) ((r24 * a3) + ((r27 - r24) * 10)) ((10 : Int32) * r31)))))))))))))))
set_option maxHeartbeats 4000000 in
set_option maxRecDepth 100000 in
theorem d_X8_sure (l : Launch) (E : kq_T) (Z : km_Z) (v : Mm) (a1 : Int32) (a2 : Int32) (a3 : Int32) (a4 : Int32) (hs : g_X8_sure v a1 a2 a3 a4 ≠ none) : km_I l E Z cntM yX8_sure wsX8_sure rmX8_sure [.ref (Z.1 30 0), .int a1, .int a2, .int a3, .int a4] v (fun r v1 => g_X8_sure v a1 a2 a3 a4 = some r ∧ v = v1) := by
  refine km_goI (cc := cX8_sure) (maxL := 12) (by decide) rfl (Nat.le_of_ble_eq_true rfl) rfl rfl rfl ?_
  intro p e s m below meth c A ls Q C hK hw hl hret
  obtain ⟨hx, hb, hml, hown, hts, -, -, -⟩ := C
  have hown : s.vm.findClass RX8 = some m.cls := hown
  have hl : lv_has ls 12 [(0, .ref (Z.1 30 0)), (1, .int a1), (2, .int a2), (3, .int a3), (4, .int a4)] := hl
  have hF := g_X8_sure.eq_1 v a1 a2 a3 a4
  have loop102 : ∀ (n102 : Nat) (x5_102 : Int32) (x6_102 : Int32) (x7_102 : Int32) (x8_102 : Int32) (x9_102 : Int32) (x10_102 : Int32) (H : Heap) (locs : List Loc) (ls : Array Slot), g_X8_sure v a1 a2 a3 a4 = g_X8_sure_L102  v a1 a2 a3 a4 n102 x5_102 x6_102 x7_102 x8_102 x9_102 x10_102 → km_w E A s.heap [] Z cntM v H locs → lv_has ls 12 [(0, .ref (Z.1 30 0)), (1, .int a1), (2, .int a2), (3, .int a3), (4, .int a4), (5, .int x5_102), (6, .int x6_102), (7, .int x7_102), (8, .int x8_102), (9, .int x9_102), (10, .int x10_102)] → W p l e rmX8_sure s m [.ref (Z.1 30 0), .int a1, .int a2, .int a3, .int a4].toArray below meth c H locs 0 0 Q (F0 m 102 ls []) := by
    intro n102
    induction n102 with
    | zero => intro x5_102 x6_102 x7_102 x8_102 x9_102 x10_102 H locs ls hF hw hl; exact absurd (show g_X8_sure v a1 a2 a3 a4 = none from hF) hs
    | succ n102 ih102 =>
      intro x5_102 x6_102 x7_102 x8_102 x9_102 x10_102 H locs ls hF hw hl
      have hF := hF.trans (b_X8_sure_L102.eq_1  (g_X8_sure_L102  v a1 a2 a3 a4 n102) v a1 a2 a3 a4 x5_102 x6_102 x7_102 x8_102 x9_102 x10_102)
      refine lv_iload hx hb dX8_sure_102 (lv_at hl 10 rfl) ?_
      refine lv_if_eq (tgt := 125) hx hb dX8_sure_104 (by decide) (fun c1 => ?_) (fun c1 => ?_)
      · skip
        have hF := hF.trans (if_pos c1)
        refine lv_iload hx hb dX8_sure_125 (lv_at hl 4 rfl) ?_
        refine lv_if_ne (tgt := 135) hx hb dX8_sure_127 (by decide) (fun c2 => ?_) (fun c2 => ?_)
        · skip
          have hF := hF.trans (if_neg c2)
          refine lv_iload hx hb dX8_sure_135 (lv_at hl 8 rfl) ?_
          refine lv_iload hx hb dX8_sure_137 (lv_at hl 9 rfl) ?_
          have hb3 : ¬ x9_102 = 0 := fun q => hs (hF.trans (if_pos q))
          have hF := hF.trans (if_neg hb3)
          refine lv_idiv hx hb dX8_sure_139 hb3 ?_
          exact hret _ _ _ _ _ _ hw dX8_sure_140 ⟨hF, rfl⟩
        · skip
          have hF := hF.trans (if_pos c2)
          refine lv_iload hx hb dX8_sure_130 (lv_at hl 7 rfl) ?_
          refine lv_goto (tgt := 137) hx hb dX8_sure_132 (by decide) ?_
          refine lv_iload hx hb dX8_sure_137 (lv_at hl 9 rfl) ?_
          have hb4 : ¬ x9_102 = 0 := fun q => hs (hF.trans (if_pos q))
          have hF := hF.trans (if_neg hb4)
          refine lv_idiv hx hb dX8_sure_139 hb4 ?_
          exact hret _ _ _ _ _ _ hw dX8_sure_140 ⟨hF, rfl⟩
      · skip
        have hF := hF.trans (if_neg c1)
        refine lv_iload hx hb dX8_sure_107 (lv_at hl 9 rfl) ?_
        refine lv_iload hx hb dX8_sure_109 (lv_at hl 10 rfl) ?_
        have hb5 : ¬ x10_102 = 0 := fun q => hs (hF.trans (if_pos q))
        have hF := hF.trans (if_neg hb5)
        refine lv_irem hx hb dX8_sure_111 hb5 ?_
        refine lv_istore (lv' := [(11, .int (x9_102 - x9_102 / x10_102 * x10_102)), (0, .ref (Z.1 30 0)), (1, .int a1), (2, .int a2), (3, .int a3), (4, .int a4), (5, .int x5_102), (6, .int x6_102), (7, .int x7_102), (8, .int x8_102), (9, .int x9_102), (10, .int x10_102)]) hx hb dX8_sure_112 hl (by decide) rfl (fun ls hl => ?_)
        refine lv_iload hx hb dX8_sure_114 (lv_at hl 11 rfl) ?_
        refine lv_istore (lv' := [(9, .int x10_102), (11, .int (x9_102 - x9_102 / x10_102 * x10_102)), (0, .ref (Z.1 30 0)), (1, .int a1), (2, .int a2), (3, .int a3), (4, .int a4), (5, .int x5_102), (6, .int x6_102), (7, .int x7_102), (8, .int x8_102), (10, .int x10_102)]) hx hb dX8_sure_116 hl (by decide) rfl (fun ls hl => ?_)
        refine lv_iload hx hb dX8_sure_118 (lv_at hl 1 rfl) ?_
        refine lv_istore (lv' := [(10, .int (x9_102 - x9_102 / x10_102 * x10_102)), (9, .int x10_102), (11, .int (x9_102 - x9_102 / x10_102 * x10_102)), (0, .ref (Z.1 30 0)), (1, .int a1), (2, .int a2), (3, .int a3), (4, .int a4), (5, .int x5_102), (6, .int x6_102), (7, .int x7_102), (8, .int x8_102)]) hx hb dX8_sure_120 hl (by decide) rfl (fun ls hl => ?_)
        refine lv_goto (tgt := 102) hx hb dX8_sure_122 (by decide) ?_
        have hl := lv_sub (l' := [(0, .ref (Z.1 30 0)), (1, .int a1), (2, .int a2), (3, .int a3), (4, .int a4), (5, .int x5_102), (6, .int x6_102), (7, .int x7_102), (8, .int x8_102), (9, .int x10_102), (10, .int (x9_102 - x9_102 / x10_102 * x10_102))]) hl [3, 4, 5, 6, 7, 8, 9, 10, 11, 1, 0] rfl
        exact ih102 x5_102 x6_102 x7_102 x8_102 x10_102 (x9_102 - x9_102 / x10_102 * x10_102) _ _ _ hF hw hl
  refine lv_aload_n hx hb dX8_sure_0 rfl (lv_at hl 0 rfl) ?_
  refine lv_iload_n hx hb dX8_sure_1 rfl (lv_at hl 1 rfl) ?_
  have hs6 : g_X8_isWord v a1 ≠ none := fun q => hs (hF.trans (kb_n q _))
  refine km_cI (As := [.int a1]) (rest := []) (n := 1) (q := (RX8, TX8, 23)) (ci := 8) (t := 30) (i := 0) ⟨hx, hb, hml, hown, hts⟩ (d_X8_isWord l E Z v a1 hs6) gX8_sure_X8_isWord rfl hV_X8_isWord ⟨Nat.le_of_ble_eq_true rfl, Nat.le_of_ble_eq_true rfl⟩ hK hw (by decide) (by decide) rfl rfl rfl hl.1 rfl (Nat.le_of_ble_eq_true rfl) dX8_sure_2 rfl rfl (fun r7 v8 H locs hp hw => ?_)
  obtain ⟨hp, hzr7⟩ := hp
  obtain ⟨hp, rfl⟩ := hp
  have hF := hF.trans (kb_some hp _)
  refine lv_if_eq (tgt := 35) hx hb dX8_sure_5 (by decide) (fun c9 => ?_) (fun c9 => ?_)
  · skip
    have hF := hF.trans (if_pos c9)
    refine lv_ldc (v := (-1000001)) hx hb hown (hts (.constant RX8 64 (-1000001)) ow_X8_sure_64) dX8_sure_35 ?_
    exact hret _ _ _ _ _ _ hw dX8_sure_37 ⟨hF, rfl⟩
  · skip
    have hF := hF.trans (if_neg c9)
    refine lv_iload_n hx hb dX8_sure_8 rfl (lv_at hl 2 rfl) ?_
    have hs10 : g_X8_isHour v a2 ≠ none := fun q => hs (hF.trans (kb_n q _))
    refine km_cS (As := [.int a2]) (rest := []) (n := 1) ⟨hx, hb, hml, hown, hts⟩ (d_X8_isHour l E Z v a2 hs10) gX8_sure_X8_isHour rfl hV_X8_isHour ⟨Nat.le_of_ble_eq_true rfl, Nat.le_of_ble_eq_true rfl⟩ hK hw rfl hl.1 rfl (Nat.le_of_ble_eq_true rfl) dX8_sure_9 rfl rfl (fun r11 v12 H locs hp hw => ?_)
    obtain ⟨hp, hzr11⟩ := hp
    obtain ⟨hp, rfl⟩ := hp
    have hF := hF.trans (kb_some hp _)
    refine lv_if_eq (tgt := 35) hx hb dX8_sure_12 (by decide) (fun c13 => ?_) (fun c13 => ?_)
    · skip
      have hF := hF.trans (if_pos c13)
      refine lv_ldc (v := (-1000001)) hx hb hown (hts (.constant RX8 64 (-1000001)) ow_X8_sure_64) dX8_sure_35 ?_
      exact hret _ _ _ _ _ _ hw dX8_sure_37 ⟨hF, rfl⟩
    · skip
      have hF := hF.trans (if_neg c13)
      refine lv_iload_n hx hb dX8_sure_15 rfl (lv_at hl 3 rfl) ?_
      refine lv_iconst (v := 0) hx hb dX8_sure_16 (by decide) ?_
      refine lv_bipush (v := 10) hx hb dX8_sure_17 (by decide) ?_
      have hs14 : g_X8_in v a3 0 10 ≠ none := fun q => hs (hF.trans (kb_n q _))
      refine km_cS (As := [.int a3, .int 0, .int 10]) (rest := []) (n := 3) ⟨hx, hb, hml, hown, hts⟩ (d_X8_in l E Z v a3 0 10 hs14) gX8_sure_X8_in rfl hV_X8_in ⟨Nat.le_of_ble_eq_true rfl, Nat.le_of_ble_eq_true rfl⟩ hK hw rfl hl.1 rfl (Nat.le_of_ble_eq_true rfl) dX8_sure_19 rfl rfl (fun r15 v16 H locs hp hw => ?_)
      obtain ⟨hp, hzr15⟩ := hp
      obtain ⟨hp, rfl⟩ := hp
      have hF := hF.trans (kb_some hp _)
      refine lv_if_eq (tgt := 35) hx hb dX8_sure_22 (by decide) (fun c17 => ?_) (fun c17 => ?_)
      · skip
        have hF := hF.trans (if_pos c17)
        refine lv_ldc (v := (-1000001)) hx hb hown (hts (.constant RX8 64 (-1000001)) ow_X8_sure_64) dX8_sure_35 ?_
        exact hret _ _ _ _ _ _ hw dX8_sure_37 ⟨hF, rfl⟩
      · skip
        have hF := hF.trans (if_neg c17)
        refine lv_iload hx hb dX8_sure_25 (lv_at hl 4 rfl) ?_
        refine lv_iconst (v := 0) hx hb dX8_sure_27 (by decide) ?_
        refine lv_iconst (v := 1) hx hb dX8_sure_28 (by decide) ?_
        have hs18 : g_X8_in v a4 0 1 ≠ none := fun q => hs (hF.trans (kb_n q _))
        refine km_cS (As := [.int a4, .int 0, .int 1]) (rest := []) (n := 3) ⟨hx, hb, hml, hown, hts⟩ (d_X8_in l E Z v a4 0 1 hs18) gX8_sure_X8_in rfl hV_X8_in ⟨Nat.le_of_ble_eq_true rfl, Nat.le_of_ble_eq_true rfl⟩ hK hw rfl hl.1 rfl (Nat.le_of_ble_eq_true rfl) dX8_sure_29 rfl rfl (fun r19 v20 H locs hp hw => ?_)
        obtain ⟨hp, hzr19⟩ := hp
        obtain ⟨hp, rfl⟩ := hp
        have hF := hF.trans (kb_some hp _)
        refine lv_if_ne (tgt := 38) hx hb dX8_sure_32 (by decide) (fun c21 => ?_) (fun c21 => ?_)
        · skip
          have hF := hF.trans (if_neg c21)
          refine lv_aload_n hx hb dX8_sure_38 rfl (lv_at hl 0 rfl) ?_
          have hs22 : g_X8_agreeing v ≠ none := fun q => hs (hF.trans (kb_n q _))
          refine km_cI (As := []) (rest := []) (n := 0) (q := (RX8, TX8, 23)) (ci := 8) (t := 30) (i := 0) ⟨hx, hb, hml, hown, hts⟩ (d_X8_agreeing l E Z v  hs22) gX8_sure_X8_agreeing rfl hV_X8_agreeing ⟨Nat.le_of_ble_eq_true rfl, Nat.le_of_ble_eq_true rfl⟩ hK hw (by decide) (by decide) rfl rfl rfl hl.1 rfl (Nat.le_of_ble_eq_true rfl) dX8_sure_39 rfl rfl (fun r23 v24 H locs hp hw => ?_)
          obtain ⟨hp, rfl⟩ := hp
          have hF := hF.trans (kb_some hp _)
          refine lv_istore (lv' := [(5, .int r23), (0, .ref (Z.1 30 0)), (1, .int a1), (2, .int a2), (3, .int a3), (4, .int a4)]) hx hb dX8_sure_42 hl (by decide) rfl (fun ls hl => ?_)
          refine lv_aload_n hx hb dX8_sure_44 rfl (lv_at hl 1 rfl) ?_
          refine lv_iload hx hb dX8_sure_45 (lv_at hl 0 rfl) ?_
          refine lv_iload_n hx hb dX8_sure_47 rfl (lv_at hl 2 rfl) ?_
          refine lv_iload_n hx hb dX8_sure_48 rfl (lv_at hl 3 rfl) ?_
          have hs25 : g_X8_takenOf v r23 a1 a2 ≠ none := fun q => hs (hF.trans (kb_n q _))
          refine km_cI (As := [.int r23, .int a1, .int a2]) (rest := []) (n := 3) (q := (RX8, TX8, 23)) (ci := 8) (t := 30) (i := 0) ⟨hx, hb, hml, hown, hts⟩ (d_X8_takenOf l E Z v r23 a1 a2 hs25) gX8_sure_X8_takenOf rfl hV_X8_takenOf ⟨Nat.le_of_ble_eq_true rfl, Nat.le_of_ble_eq_true rfl⟩ hK hw (by decide) (by decide) rfl rfl rfl hl.1 rfl (Nat.le_of_ble_eq_true rfl) dX8_sure_49 rfl rfl (fun r26 v27 H locs hp hw => ?_)
          obtain ⟨hp, rfl⟩ := hp
          have hF := hF.trans (kb_some hp _)
          have hs28 : g_X8_ones v r26 ≠ none := fun q => hs (hF.trans (kb_n q _))
          refine km_cS (As := [.int r26]) (rest := []) (n := 1) ⟨hx, hb, hml, hown, hts⟩ (d_X8_ones l E Z v r26 hs28) gX8_sure_X8_ones rfl hV_X8_ones ⟨Nat.le_of_ble_eq_true rfl, Nat.le_of_ble_eq_true rfl⟩ hK hw rfl hl.1 rfl (Nat.le_of_ble_eq_true rfl) dX8_sure_52 rfl rfl (fun r29 v30 H locs hp hw => ?_)
          obtain ⟨hp, rfl⟩ := hp
          have hF := hF.trans (kb_some hp _)
          refine lv_istore (lv' := [(6, .int r29), (5, .int r23), (0, .ref (Z.1 30 0)), (1, .int a1), (2, .int a2), (3, .int a3), (4, .int a4)]) hx hb dX8_sure_55 hl (by decide) rfl (fun ls hl => ?_)
          refine lv_iload hx hb dX8_sure_57 (lv_at hl 0 rfl) ?_
          refine lv_iload_n hx hb dX8_sure_59 rfl (lv_at hl 5 rfl) ?_
          refine lv_imul hx hb dX8_sure_60 ?_
          refine lv_iload hx hb dX8_sure_61 (lv_at hl 1 rfl) ?_
          have hs31 : g_X8_ones v r23 ≠ none := fun q => hs (hF.trans (kb_n q _))
          refine km_cS (As := [.int r23]) (rest := [.int (r29 * a3)]) (n := 1) ⟨hx, hb, hml, hown, hts⟩ (d_X8_ones l E Z v r23 hs31) gX8_sure_X8_ones rfl hV_X8_ones ⟨Nat.le_of_ble_eq_true rfl, Nat.le_of_ble_eq_true rfl⟩ hK hw rfl hl.1 rfl (Nat.le_of_ble_eq_true rfl) dX8_sure_63 rfl rfl (fun r32 v33 H locs hp hw => ?_)
          obtain ⟨hp, rfl⟩ := hp
          have hF := hF.trans (kb_some hp _)
          refine lv_iload hx hb dX8_sure_66 (lv_at hl 0 rfl) ?_
          refine lv_isub hx hb dX8_sure_68 ?_
          refine lv_bipush (v := 10) hx hb dX8_sure_69 (by decide) ?_
          refine lv_imul hx hb dX8_sure_71 ?_
          refine lv_iadd hx hb dX8_sure_72 ?_
          refine lv_istore (lv' := [(7, .int ((r29 * a3) + ((r32 - r29) * 10))), (6, .int r29), (5, .int r23), (0, .ref (Z.1 30 0)), (1, .int a1), (2, .int a2), (3, .int a3), (4, .int a4)]) hx hb dX8_sure_73 hl (by decide) rfl (fun ls hl => ?_)
          refine lv_iload hx hb dX8_sure_75 (lv_at hl 2 rfl) ?_
          refine lv_if_ne (tgt := 84) hx hb dX8_sure_77 (by decide) (fun c34 => ?_) (fun c34 => ?_)
          · skip
            have hF := hF.trans (if_neg c34)
            refine lv_bipush (v := 10) hx hb dX8_sure_84 (by decide) ?_
            refine lv_iload hx hb dX8_sure_86 (lv_at hl 2 rfl) ?_
            have hs35 : g_X8_ones v r23 ≠ none := fun q => hs (hF.trans (kb_n q _))
            refine km_cS (As := [.int r23]) (rest := [.int 10]) (n := 1) ⟨hx, hb, hml, hown, hts⟩ (d_X8_ones l E Z v r23 hs35) gX8_sure_X8_ones rfl hV_X8_ones ⟨Nat.le_of_ble_eq_true rfl, Nat.le_of_ble_eq_true rfl⟩ hK hw rfl hl.1 rfl (Nat.le_of_ble_eq_true rfl) dX8_sure_88 rfl rfl (fun r36 v37 H locs hp hw => ?_)
            obtain ⟨hp, rfl⟩ := hp
            have hF := hF.trans (kb_some hp _)
            refine lv_imul hx hb dX8_sure_91 ?_
            refine lv_istore (lv' := [(8, .int ((10 : Int32) * r36)), (7, .int ((r29 * a3) + ((r32 - r29) * 10))), (6, .int r29), (5, .int r23), (0, .ref (Z.1 30 0)), (1, .int a1), (2, .int a2), (3, .int a3), (4, .int a4)]) hx hb dX8_sure_92 hl (by decide) rfl (fun ls hl => ?_)
            refine lv_iload hx hb dX8_sure_94 (lv_at hl 1 rfl) ?_
            refine lv_istore (lv' := [(9, .int ((r29 * a3) + ((r32 - r29) * 10))), (8, .int ((10 : Int32) * r36)), (7, .int ((r29 * a3) + ((r32 - r29) * 10))), (6, .int r29), (5, .int r23), (0, .ref (Z.1 30 0)), (1, .int a1), (2, .int a2), (3, .int a3), (4, .int a4)]) hx hb dX8_sure_96 hl (by decide) rfl (fun ls hl => ?_)
            refine lv_iload hx hb dX8_sure_98 (lv_at hl 1 rfl) ?_
            refine lv_istore (lv' := [(10, .int ((10 : Int32) * r36)), (9, .int ((r29 * a3) + ((r32 - r29) * 10))), (8, .int ((10 : Int32) * r36)), (7, .int ((r29 * a3) + ((r32 - r29) * 10))), (6, .int r29), (5, .int r23), (0, .ref (Z.1 30 0)), (1, .int a1), (2, .int a2), (3, .int a3), (4, .int a4)]) hx hb dX8_sure_100 hl (by decide) rfl (fun ls hl => ?_)
            have hl := lv_sub (l' := [(0, .ref (Z.1 30 0)), (1, .int a1), (2, .int a2), (3, .int a3), (4, .int a4), (5, .int r23), (6, .int r29), (7, .int ((r29 * a3) + ((r32 - r29) * 10))), (8, .int ((10 : Int32) * r36)), (9, .int ((r29 * a3) + ((r32 - r29) * 10))), (10, .int ((10 : Int32) * r36))]) hl [6, 7, 8, 9, 10, 5, 4, 3, 2, 1, 0] rfl
            exact loop102 2000 r23 r29 ((r29 * a3) + ((r32 - r29) * 10)) ((10 : Int32) * r36) ((r29 * a3) + ((r32 - r29) * 10)) ((10 : Int32) * r36) _ _ _ hF hw hl
          · skip
            have hF := hF.trans (if_pos c34)
            refine lv_iconst (v := 1) hx hb dX8_sure_80 (by decide) ?_
            refine lv_goto (tgt := 92) hx hb dX8_sure_81 (by decide) ?_
            refine lv_istore (lv' := [(8, .int 1), (7, .int ((r29 * a3) + ((r32 - r29) * 10))), (6, .int r29), (5, .int r23), (0, .ref (Z.1 30 0)), (1, .int a1), (2, .int a2), (3, .int a3), (4, .int a4)]) hx hb dX8_sure_92 hl (by decide) rfl (fun ls hl => ?_)
            refine lv_iload hx hb dX8_sure_94 (lv_at hl 1 rfl) ?_
            refine lv_istore (lv' := [(9, .int ((r29 * a3) + ((r32 - r29) * 10))), (8, .int 1), (7, .int ((r29 * a3) + ((r32 - r29) * 10))), (6, .int r29), (5, .int r23), (0, .ref (Z.1 30 0)), (1, .int a1), (2, .int a2), (3, .int a3), (4, .int a4)]) hx hb dX8_sure_96 hl (by decide) rfl (fun ls hl => ?_)
            refine lv_iload hx hb dX8_sure_98 (lv_at hl 1 rfl) ?_
            refine lv_istore (lv' := [(10, .int 1), (9, .int ((r29 * a3) + ((r32 - r29) * 10))), (8, .int 1), (7, .int ((r29 * a3) + ((r32 - r29) * 10))), (6, .int r29), (5, .int r23), (0, .ref (Z.1 30 0)), (1, .int a1), (2, .int a2), (3, .int a3), (4, .int a4)]) hx hb dX8_sure_100 hl (by decide) rfl (fun ls hl => ?_)
            have hl := lv_sub (l' := [(0, .ref (Z.1 30 0)), (1, .int a1), (2, .int a2), (3, .int a3), (4, .int a4), (5, .int r23), (6, .int r29), (7, .int ((r29 * a3) + ((r32 - r29) * 10))), (8, .int 1), (9, .int ((r29 * a3) + ((r32 - r29) * 10))), (10, .int 1)]) hl [6, 7, 8, 9, 10, 5, 4, 3, 2, 1, 0] rfl
            exact loop102 2000 r23 r29 ((r29 * a3) + ((r32 - r29) * 10)) 1 ((r29 * a3) + ((r32 - r29) * 10)) 1 _ _ _ hF hw hl
        · skip
          have hF := hF.trans (if_pos c21)
          refine lv_ldc (v := (-1000001)) hx hb hown (hts (.constant RX8 64 (-1000001)) ow_X8_sure_64) dX8_sure_35 ?_
          exact hret _ _ _ _ _ _ hw dX8_sure_37 ⟨hF, rfl⟩
abbrev rmX8_drawn : Room := { frames := 4, cells := 0, slots := 0, locals := 98 }
def b_X8_drawn_L52  (rec52 : Int64 → Int32 → Int32 → Int32 → Option (Int32)) (v : Mm) (a1 : Int32) (a2 : Int32) (a3 : Int32) (x4_52 : Int64) (x6_52 : Int32) (x7_52 : Int32) (x8_52 : Int32) : Option (Int32) := if a1 ≤ x8_52 then (if a3 = 0 then (some x6_52) else (some x7_52)) else (if (v 36 0 (Int32.toNatClampNeg 3)).toInt64 = 0 then none else (Option.bind (some ((((x4_52 * 16807) - (x4_52 * 16807) / 2147483647 * 2147483647) - ((x4_52 * 16807) - (x4_52 * 16807) / 2147483647 * 2147483647) / ((v 36 0 (Int32.toNatClampNeg 3)).toInt64) * ((v 36 0 (Int32.toNatClampNeg 3)).toInt64)).toInt32)) (fun x20 => Option.bind (g_X8_isTakenNow v x20 ((((x4_52 * 16807) - (x4_52 * 16807) / 2147483647 * 2147483647) - ((x4_52 * 16807) - (x4_52 * 16807) / 2147483647 * 2147483647) / 6 * 6).toInt32) x8_52) (fun r22 => if r22 = 0 then (if r22 = 0 then (Option.bind (some (x7_52 ||| ((1 : Int32) <<< (x20 &&& 31)))) (fun x26 => rec52 ((x4_52 * 16807) - (x4_52 * 16807) / 2147483647 * 2147483647) (x6_52 + 0) x26 (x8_52 + 1))) else (rec52 ((x4_52 * 16807) - (x4_52 * 16807) / 2147483647 * 2147483647) (x6_52 + 0) (x7_52 ||| 0) (x8_52 + 1))) else (if r22 = 0 then (Option.bind (some (x7_52 ||| ((1 : Int32) <<< (x20 &&& 31)))) (fun x28 => rec52 ((x4_52 * 16807) - (x4_52 * 16807) / 2147483647 * 2147483647) (x6_52 + 1) x28 (x8_52 + 1))) else (rec52 ((x4_52 * 16807) - (x4_52 * 16807) / 2147483647 * 2147483647) (x6_52 + 1) (x7_52 ||| 0) (x8_52 + 1)))))))
def g_X8_drawn_L52  (v : Mm) (a1 : Int32) (a2 : Int32) (a3 : Int32) : Nat → Int64 → Int32 → Int32 → Int32 → Option (Int32)
  | 0 => fun _ _ _ _ => none
  | n + 1 => b_X8_drawn_L52  (g_X8_drawn_L52  v a1 a2 a3 n) v a1 a2 a3
def g_X8_drawn (v : Mm) (a1 : Int32) (a2 : Int32) (a3 : Int32) : Option (Int32) := Option.bind (g_X8_isGate v) (fun r2 => if r2 = 0 then (some ((-1000002))) else (Option.bind (g_X8_isFar v a1) (fun r6 => if r6 = 0 then (some ((-1000001))) else (Option.bind (g_X8_in v a2 1 999999) (fun r10 => if r10 = 0 then (some ((-1000001))) else (Option.bind (g_X8_in v a3 0 1) (fun r14 => if r14 = 0 then (some ((-1000001))) else (g_X8_drawn_L52  v a1 a2 a3 2000 a2.toInt64 0 0 0))))))))
set_option maxHeartbeats 4000000 in
set_option maxRecDepth 100000 in
theorem d_X8_drawn (l : Launch) (E : kq_T) (Z : km_Z) (v : Mm) (a1 : Int32) (a2 : Int32) (a3 : Int32) (hs : g_X8_drawn v a1 a2 a3 ≠ none) : km_I l E Z cntM yX8_drawn wsX8_drawn rmX8_drawn [.ref (Z.1 30 0), .int a1, .int a2, .int a3] v (fun r v1 => g_X8_drawn v a1 a2 a3 = some r ∧ v = v1) := by
  refine km_goI (cc := cX8_drawn) (maxL := 11) (by decide) rfl (Nat.le_of_ble_eq_true rfl) rfl rfl rfl ?_
  intro p e s m below meth c A ls Q C hK hw hl hret
  obtain ⟨hx, hb, hml, hown, hts, -, -, -⟩ := C
  have hown : s.vm.findClass RX8 = some m.cls := hown
  have hl : lv_has ls 11 [(0, .ref (Z.1 30 0)), (1, .int a1), (2, .int a2), (3, .int a3)] := hl
  have hF := g_X8_drawn.eq_1 v a1 a2 a3
  have loop52 : ∀ (n52 : Nat) (x4_52 : Int64) (x6_52 : Int32) (x7_52 : Int32) (x8_52 : Int32) (H : Heap) (locs : List Loc) (ls : Array Slot), g_X8_drawn v a1 a2 a3 = g_X8_drawn_L52  v a1 a2 a3 n52 x4_52 x6_52 x7_52 x8_52 → km_w E A s.heap [] Z cntM v H locs → lv_has ls 11 [(0, .ref (Z.1 30 0)), (1, .int a1), (2, .int a2), (3, .int a3), (4, .long x4_52), (6, .int x6_52), (7, .int x7_52), (8, .int x8_52)] → W p l e rmX8_drawn s m [.ref (Z.1 30 0), .int a1, .int a2, .int a3].toArray below meth c H locs 0 0 Q (F0 m 52 ls []) := by
    intro n52
    induction n52 with
    | zero => intro x4_52 x6_52 x7_52 x8_52 H locs ls hF hw hl; exact absurd (show g_X8_drawn v a1 a2 a3 = none from hF) hs
    | succ n52 ih52 =>
      intro x4_52 x6_52 x7_52 x8_52 H locs ls hF hw hl
      have hF := hF.trans (b_X8_drawn_L52.eq_1  (g_X8_drawn_L52  v a1 a2 a3 n52) v a1 a2 a3 x4_52 x6_52 x7_52 x8_52)
      refine lv_iload hx hb dX8_drawn_52 (lv_at hl 7 rfl) ?_
      refine lv_iload_n hx hb dX8_drawn_54 rfl (lv_at hl 1 rfl) ?_
      refine lv_icmp_ge (tgt := 139) hx hb dX8_drawn_55 (by decide) (fun c1 => ?_) (fun c1 => ?_)
      · skip
        have hF := hF.trans (if_pos c1)
        refine lv_iload_n hx hb dX8_drawn_139 rfl (lv_at hl 3 rfl) ?_
        refine lv_if_ne (tgt := 148) hx hb dX8_drawn_140 (by decide) (fun c2 => ?_) (fun c2 => ?_)
        · skip
          have hF := hF.trans (if_neg c2)
          refine lv_iload hx hb dX8_drawn_148 (lv_at hl 6 rfl) ?_
          exact hret _ _ _ _ _ _ hw dX8_drawn_150 ⟨hF, rfl⟩
        · skip
          have hF := hF.trans (if_pos c2)
          refine lv_iload hx hb dX8_drawn_143 (lv_at hl 5 rfl) ?_
          refine lv_goto (tgt := 150) hx hb dX8_drawn_145 (by decide) ?_
          exact hret _ _ _ _ _ _ hw dX8_drawn_150 ⟨hF, rfl⟩
      · skip
        have hF := hF.trans (if_neg c1)
        refine lv_lload hx hb dX8_drawn_58 (lv_at hl 4 rfl) ?_
        refine lv_ldc2 (v := 16807) hx hb hown (hts (.constantLong RX8 231 16807) (by decide +kernel)) dX8_drawn_60 ?_
        refine lv_lmul hx hb dX8_drawn_63 ?_
        refine lv_ldc2 (v := 2147483647) hx hb hown (hts (.constantLong RX8 233 2147483647) (by decide +kernel)) dX8_drawn_64 ?_
        refine lv_lrem hx hb dX8_drawn_67 (by decide) ?_
        refine lv_lstore (lv' := [(4, .long ((x4_52 * 16807) - (x4_52 * 16807) / 2147483647 * 2147483647)), (0, .ref (Z.1 30 0)), (1, .int a1), (2, .int a2), (3, .int a3), (6, .int x6_52), (7, .int x7_52), (8, .int x8_52)]) hx hb dX8_drawn_68 hl (by decide) rfl (fun ls hl => ?_)
        refine lv_lload hx hb dX8_drawn_70 (lv_at hl 0 rfl) ?_
        refine lv_aload_n hx hb dX8_drawn_72 rfl (lv_at hl 1 rfl) ?_
        refine km_get (ci := 8) (C := RX8) (T := TX8) (N := 23) (t := 30) (i := 0) hx hb hts fi_X8_drawn_X8 hown hK hw (by decide) (by decide) rfl rfl 13 (by decide) (hts (.fieldLink RX8 25 "WrongWordModel" "now" "[I") ow_X8_drawn_25) rfl dX8_drawn_73 ?_
        refine lv_iconst (v := 3) hx hb dX8_drawn_76 (by decide) ?_
        refine km_iald (t := 36) (i := 0) hx hb hK hw (by decide) (by decide) rfl (by unfold vp_in; decide) dX8_drawn_77 ?_
        refine lv_i2l (v := (v 36 0 (Int32.toNatClampNeg 3)).toInt64) hx hb dX8_drawn_78 rfl ?_
        have hb3 : ¬ (v 36 0 (Int32.toNatClampNeg 3)).toInt64 = 0 := fun q => hs (hF.trans (if_pos q))
        have hF := hF.trans (if_neg hb3)
        refine lv_lrem hx hb dX8_drawn_79 hb3 ?_
        refine lv_l2i (v := (((x4_52 * 16807) - (x4_52 * 16807) / 2147483647 * 2147483647) - ((x4_52 * 16807) - (x4_52 * 16807) / 2147483647 * 2147483647) / ((v 36 0 (Int32.toNatClampNeg 3)).toInt64) * ((v 36 0 (Int32.toNatClampNeg 3)).toInt64)).toInt32) hx hb dX8_drawn_80 rfl ?_
        refine lv_topi (fun x4 ex4 => ?_)
        have hF := hF.trans (kb_some (congrArg some ex4.symm) _)
        refine lv_istore (lv' := [(9, .int x4), (4, .long ((x4_52 * 16807) - (x4_52 * 16807) / 2147483647 * 2147483647)), (0, .ref (Z.1 30 0)), (1, .int a1), (2, .int a2), (3, .int a3), (6, .int x6_52), (7, .int x7_52), (8, .int x8_52)]) hx hb dX8_drawn_81 hl (by decide) rfl (fun ls hl => ?_)
        refine lv_aload_n hx hb dX8_drawn_83 rfl (lv_at hl 2 rfl) ?_
        refine lv_iload hx hb dX8_drawn_84 (lv_at hl 0 rfl) ?_
        refine lv_lload hx hb dX8_drawn_86 (lv_at hl 1 rfl) ?_
        refine lv_ldc2 (v := 6) hx hb hown (hts (.constantLong RX8 235 6) (by decide +kernel)) dX8_drawn_88 ?_
        refine lv_lrem hx hb dX8_drawn_91 (by decide) ?_
        refine lv_l2i (v := (((x4_52 * 16807) - (x4_52 * 16807) / 2147483647 * 2147483647) - ((x4_52 * 16807) - (x4_52 * 16807) / 2147483647 * 2147483647) / 6 * 6).toInt32) hx hb dX8_drawn_92 rfl ?_
        refine lv_iload hx hb dX8_drawn_93 (lv_at hl 8 rfl) ?_
        have hs5 : g_X8_isTakenNow v x4 ((((x4_52 * 16807) - (x4_52 * 16807) / 2147483647 * 2147483647) - ((x4_52 * 16807) - (x4_52 * 16807) / 2147483647 * 2147483647) / 6 * 6).toInt32) x8_52 ≠ none := fun q => hs (hF.trans (kb_n q _))
        refine km_cI (As := [.int x4, .int ((((x4_52 * 16807) - (x4_52 * 16807) / 2147483647 * 2147483647) - ((x4_52 * 16807) - (x4_52 * 16807) / 2147483647 * 2147483647) / 6 * 6).toInt32), .int x8_52]) (rest := []) (n := 3) (q := (RX8, TX8, 23)) (ci := 8) (t := 30) (i := 0) ⟨hx, hb, hml, hown, hts⟩ (d_X8_isTakenNow l E Z v x4 ((((x4_52 * 16807) - (x4_52 * 16807) / 2147483647 * 2147483647) - ((x4_52 * 16807) - (x4_52 * 16807) / 2147483647 * 2147483647) / 6 * 6).toInt32) x8_52 hs5) gX8_drawn_X8_isTakenNow rfl hV_X8_isTakenNow ⟨Nat.le_of_ble_eq_true rfl, Nat.le_of_ble_eq_true rfl⟩ hK hw (by decide) (by decide) rfl rfl rfl hl.1 rfl (Nat.le_of_ble_eq_true rfl) dX8_drawn_95 rfl rfl (fun r6 v7 H locs hp hw => ?_)
        obtain ⟨hp, hzr6⟩ := hp
        obtain ⟨hp, rfl⟩ := hp
        have hF := hF.trans (kb_some hp _)
        refine lv_istore (lv' := [(10, .int r6), (9, .int x4), (4, .long ((x4_52 * 16807) - (x4_52 * 16807) / 2147483647 * 2147483647)), (0, .ref (Z.1 30 0)), (1, .int a1), (2, .int a2), (3, .int a3), (6, .int x6_52), (7, .int x7_52), (8, .int x8_52)]) hx hb dX8_drawn_98 hl (by decide) rfl (fun ls hl => ?_)
        refine lv_iload hx hb dX8_drawn_100 (lv_at hl 7 rfl) ?_
        refine lv_iload hx hb dX8_drawn_102 (lv_at hl 0 rfl) ?_
        refine lv_if_eq (tgt := 111) hx hb dX8_drawn_104 (by decide) (fun c8 => ?_) (fun c8 => ?_)
        · skip
          have hF := hF.trans (if_pos c8)
          refine lv_iconst (v := 0) hx hb dX8_drawn_111 (by decide) ?_
          refine lv_iadd hx hb dX8_drawn_112 ?_
          refine lv_istore (lv' := [(6, .int (x6_52 + 0)), (10, .int r6), (9, .int x4), (4, .long ((x4_52 * 16807) - (x4_52 * 16807) / 2147483647 * 2147483647)), (0, .ref (Z.1 30 0)), (1, .int a1), (2, .int a2), (3, .int a3), (7, .int x7_52), (8, .int x8_52)]) hx hb dX8_drawn_113 hl (by decide) rfl (fun ls hl => ?_)
          refine lv_iload hx hb dX8_drawn_115 (lv_at hl 8 rfl) ?_
          refine lv_iload hx hb dX8_drawn_117 (lv_at hl 1 rfl) ?_
          refine lv_if_eq (tgt := 126) hx hb dX8_drawn_119 (by decide) (fun c9 => ?_) (fun c9 => ?_)
          · skip
            have hF := hF.trans (if_pos c9)
            refine lv_iconst (v := 1) hx hb dX8_drawn_126 (by decide) ?_
            refine lv_iload hx hb dX8_drawn_127 (lv_at hl 2 rfl) ?_
            refine lv_ishl hx hb dX8_drawn_129 ?_
            refine lv_ior hx hb dX8_drawn_130 ?_
            refine lv_topi (fun x10 ex10 => ?_)
            have hF := hF.trans (kb_some (congrArg some ex10.symm) _)
            refine lv_istore (lv' := [(7, .int x10), (6, .int (x6_52 + 0)), (10, .int r6), (9, .int x4), (4, .long ((x4_52 * 16807) - (x4_52 * 16807) / 2147483647 * 2147483647)), (0, .ref (Z.1 30 0)), (1, .int a1), (2, .int a2), (3, .int a3), (8, .int x8_52)]) hx hb dX8_drawn_131 hl (by decide) rfl (fun ls hl => ?_)
            refine lv_iinc (v := x8_52 + 1) (lv' := [(8, .int (x8_52 + 1)), (7, .int x10), (6, .int (x6_52 + 0)), (10, .int r6), (9, .int x4), (4, .long ((x4_52 * 16807) - (x4_52 * 16807) / 2147483647 * 2147483647)), (0, .ref (Z.1 30 0)), (1, .int a1), (2, .int a2), (3, .int a3)]) hx hb dX8_drawn_133 hl (k := 9) rfl rfl (by decide) rfl (fun ls hl => ?_)
            refine lv_goto (tgt := 52) hx hb dX8_drawn_136 (by decide) ?_
            have hl := lv_sub (l' := [(0, .ref (Z.1 30 0)), (1, .int a1), (2, .int a2), (3, .int a3), (4, .long ((x4_52 * 16807) - (x4_52 * 16807) / 2147483647 * 2147483647)), (6, .int (x6_52 + 0)), (7, .int x10), (8, .int (x8_52 + 1))]) hl [6, 7, 8, 9, 5, 2, 1, 0] rfl
            exact ih52 ((x4_52 * 16807) - (x4_52 * 16807) / 2147483647 * 2147483647) (x6_52 + 0) x10 (x8_52 + 1) _ _ _ hF hw hl
          · skip
            have hF := hF.trans (if_neg c9)
            refine lv_iconst (v := 0) hx hb dX8_drawn_122 (by decide) ?_
            refine lv_goto (tgt := 130) hx hb dX8_drawn_123 (by decide) ?_
            refine lv_ior hx hb dX8_drawn_130 ?_
            refine lv_istore (lv' := [(7, .int (x7_52 ||| 0)), (6, .int (x6_52 + 0)), (10, .int r6), (9, .int x4), (4, .long ((x4_52 * 16807) - (x4_52 * 16807) / 2147483647 * 2147483647)), (0, .ref (Z.1 30 0)), (1, .int a1), (2, .int a2), (3, .int a3), (8, .int x8_52)]) hx hb dX8_drawn_131 hl (by decide) rfl (fun ls hl => ?_)
            refine lv_iinc (v := x8_52 + 1) (lv' := [(8, .int (x8_52 + 1)), (7, .int (x7_52 ||| 0)), (6, .int (x6_52 + 0)), (10, .int r6), (9, .int x4), (4, .long ((x4_52 * 16807) - (x4_52 * 16807) / 2147483647 * 2147483647)), (0, .ref (Z.1 30 0)), (1, .int a1), (2, .int a2), (3, .int a3)]) hx hb dX8_drawn_133 hl (k := 9) rfl rfl (by decide) rfl (fun ls hl => ?_)
            refine lv_goto (tgt := 52) hx hb dX8_drawn_136 (by decide) ?_
            have hl := lv_sub (l' := [(0, .ref (Z.1 30 0)), (1, .int a1), (2, .int a2), (3, .int a3), (4, .long ((x4_52 * 16807) - (x4_52 * 16807) / 2147483647 * 2147483647)), (6, .int (x6_52 + 0)), (7, .int (x7_52 ||| 0)), (8, .int (x8_52 + 1))]) hl [6, 7, 8, 9, 5, 2, 1, 0] rfl
            exact ih52 ((x4_52 * 16807) - (x4_52 * 16807) / 2147483647 * 2147483647) (x6_52 + 0) (x7_52 ||| 0) (x8_52 + 1) _ _ _ hF hw hl
        · skip
          have hF := hF.trans (if_neg c8)
          refine lv_iconst (v := 1) hx hb dX8_drawn_107 (by decide) ?_
          refine lv_goto (tgt := 112) hx hb dX8_drawn_108 (by decide) ?_
          refine lv_iadd hx hb dX8_drawn_112 ?_
          refine lv_istore (lv' := [(6, .int (x6_52 + 1)), (10, .int r6), (9, .int x4), (4, .long ((x4_52 * 16807) - (x4_52 * 16807) / 2147483647 * 2147483647)), (0, .ref (Z.1 30 0)), (1, .int a1), (2, .int a2), (3, .int a3), (7, .int x7_52), (8, .int x8_52)]) hx hb dX8_drawn_113 hl (by decide) rfl (fun ls hl => ?_)
          refine lv_iload hx hb dX8_drawn_115 (lv_at hl 8 rfl) ?_
          refine lv_iload hx hb dX8_drawn_117 (lv_at hl 1 rfl) ?_
          refine lv_if_eq (tgt := 126) hx hb dX8_drawn_119 (by decide) (fun c11 => ?_) (fun c11 => ?_)
          · skip
            have hF := hF.trans (if_pos c11)
            refine lv_iconst (v := 1) hx hb dX8_drawn_126 (by decide) ?_
            refine lv_iload hx hb dX8_drawn_127 (lv_at hl 2 rfl) ?_
            refine lv_ishl hx hb dX8_drawn_129 ?_
            refine lv_ior hx hb dX8_drawn_130 ?_
            refine lv_topi (fun x12 ex12 => ?_)
            have hF := hF.trans (kb_some (congrArg some ex12.symm) _)
            refine lv_istore (lv' := [(7, .int x12), (6, .int (x6_52 + 1)), (10, .int r6), (9, .int x4), (4, .long ((x4_52 * 16807) - (x4_52 * 16807) / 2147483647 * 2147483647)), (0, .ref (Z.1 30 0)), (1, .int a1), (2, .int a2), (3, .int a3), (8, .int x8_52)]) hx hb dX8_drawn_131 hl (by decide) rfl (fun ls hl => ?_)
            refine lv_iinc (v := x8_52 + 1) (lv' := [(8, .int (x8_52 + 1)), (7, .int x12), (6, .int (x6_52 + 1)), (10, .int r6), (9, .int x4), (4, .long ((x4_52 * 16807) - (x4_52 * 16807) / 2147483647 * 2147483647)), (0, .ref (Z.1 30 0)), (1, .int a1), (2, .int a2), (3, .int a3)]) hx hb dX8_drawn_133 hl (k := 9) rfl rfl (by decide) rfl (fun ls hl => ?_)
            refine lv_goto (tgt := 52) hx hb dX8_drawn_136 (by decide) ?_
            have hl := lv_sub (l' := [(0, .ref (Z.1 30 0)), (1, .int a1), (2, .int a2), (3, .int a3), (4, .long ((x4_52 * 16807) - (x4_52 * 16807) / 2147483647 * 2147483647)), (6, .int (x6_52 + 1)), (7, .int x12), (8, .int (x8_52 + 1))]) hl [6, 7, 8, 9, 5, 2, 1, 0] rfl
            exact ih52 ((x4_52 * 16807) - (x4_52 * 16807) / 2147483647 * 2147483647) (x6_52 + 1) x12 (x8_52 + 1) _ _ _ hF hw hl
          · skip
            have hF := hF.trans (if_neg c11)
            refine lv_iconst (v := 0) hx hb dX8_drawn_122 (by decide) ?_
            refine lv_goto (tgt := 130) hx hb dX8_drawn_123 (by decide) ?_
            refine lv_ior hx hb dX8_drawn_130 ?_
            refine lv_istore (lv' := [(7, .int (x7_52 ||| 0)), (6, .int (x6_52 + 1)), (10, .int r6), (9, .int x4), (4, .long ((x4_52 * 16807) - (x4_52 * 16807) / 2147483647 * 2147483647)), (0, .ref (Z.1 30 0)), (1, .int a1), (2, .int a2), (3, .int a3), (8, .int x8_52)]) hx hb dX8_drawn_131 hl (by decide) rfl (fun ls hl => ?_)
            refine lv_iinc (v := x8_52 + 1) (lv' := [(8, .int (x8_52 + 1)), (7, .int (x7_52 ||| 0)), (6, .int (x6_52 + 1)), (10, .int r6), (9, .int x4), (4, .long ((x4_52 * 16807) - (x4_52 * 16807) / 2147483647 * 2147483647)), (0, .ref (Z.1 30 0)), (1, .int a1), (2, .int a2), (3, .int a3)]) hx hb dX8_drawn_133 hl (k := 9) rfl rfl (by decide) rfl (fun ls hl => ?_)
            refine lv_goto (tgt := 52) hx hb dX8_drawn_136 (by decide) ?_
            have hl := lv_sub (l' := [(0, .ref (Z.1 30 0)), (1, .int a1), (2, .int a2), (3, .int a3), (4, .long ((x4_52 * 16807) - (x4_52 * 16807) / 2147483647 * 2147483647)), (6, .int (x6_52 + 1)), (7, .int (x7_52 ||| 0)), (8, .int (x8_52 + 1))]) hl [6, 7, 8, 9, 5, 2, 1, 0] rfl
            exact ih52 ((x4_52 * 16807) - (x4_52 * 16807) / 2147483647 * 2147483647) (x6_52 + 1) (x7_52 ||| 0) (x8_52 + 1) _ _ _ hF hw hl
  refine lv_aload_n hx hb dX8_drawn_0 rfl (lv_at hl 0 rfl) ?_
  have hs13 : g_X8_isGate v ≠ none := fun q => hs (hF.trans (kb_n q _))
  refine km_cI (As := []) (rest := []) (n := 0) (q := (RX8, TX8, 23)) (ci := 8) (t := 30) (i := 0) ⟨hx, hb, hml, hown, hts⟩ (d_X8_isGate l E Z v  hs13) gX8_drawn_X8_isGate rfl hV_X8_isGate ⟨Nat.le_of_ble_eq_true rfl, Nat.le_of_ble_eq_true rfl⟩ hK hw (by decide) (by decide) rfl rfl rfl hl.1 rfl (Nat.le_of_ble_eq_true rfl) dX8_drawn_1 rfl rfl (fun r14 v15 H locs hp hw => ?_)
  obtain ⟨hp, hzr14⟩ := hp
  obtain ⟨hp, rfl⟩ := hp
  have hF := hF.trans (kb_some hp _)
  refine lv_if_ne (tgt := 10) hx hb dX8_drawn_4 (by decide) (fun c16 => ?_) (fun c16 => ?_)
  · skip
    have hF := hF.trans (if_neg c16)
    refine lv_iload_n hx hb dX8_drawn_10 rfl (lv_at hl 1 rfl) ?_
    have hs17 : g_X8_isFar v a1 ≠ none := fun q => hs (hF.trans (kb_n q _))
    refine km_cS (As := [.int a1]) (rest := []) (n := 1) ⟨hx, hb, hml, hown, hts⟩ (d_X8_isFar l E Z v a1 hs17) gX8_drawn_X8_isFar rfl hV_X8_isFar ⟨Nat.le_of_ble_eq_true rfl, Nat.le_of_ble_eq_true rfl⟩ hK hw rfl hl.1 rfl (Nat.le_of_ble_eq_true rfl) dX8_drawn_11 rfl rfl (fun r18 v19 H locs hp hw => ?_)
    obtain ⟨hp, hzr18⟩ := hp
    obtain ⟨hp, rfl⟩ := hp
    have hF := hF.trans (kb_some hp _)
    refine lv_if_eq (tgt := 36) hx hb dX8_drawn_14 (by decide) (fun c20 => ?_) (fun c20 => ?_)
    · skip
      have hF := hF.trans (if_pos c20)
      refine lv_ldc (v := (-1000001)) hx hb hown (hts (.constant RX8 64 (-1000001)) ow_X8_drawn_64) dX8_drawn_36 ?_
      exact hret _ _ _ _ _ _ hw dX8_drawn_38 ⟨hF, rfl⟩
    · skip
      have hF := hF.trans (if_neg c20)
      refine lv_iload_n hx hb dX8_drawn_17 rfl (lv_at hl 2 rfl) ?_
      refine lv_iconst (v := 1) hx hb dX8_drawn_18 (by decide) ?_
      refine lv_ldc (v := 999999) hx hb hown (hts (.constant RX8 230 (999999)) ow_X8_drawn_230) dX8_drawn_19 ?_
      have hs21 : g_X8_in v a2 1 999999 ≠ none := fun q => hs (hF.trans (kb_n q _))
      refine km_cS (As := [.int a2, .int 1, .int 999999]) (rest := []) (n := 3) ⟨hx, hb, hml, hown, hts⟩ (d_X8_in l E Z v a2 1 999999 hs21) gX8_drawn_X8_in rfl hV_X8_in ⟨Nat.le_of_ble_eq_true rfl, Nat.le_of_ble_eq_true rfl⟩ hK hw rfl hl.1 rfl (Nat.le_of_ble_eq_true rfl) dX8_drawn_21 rfl rfl (fun r22 v23 H locs hp hw => ?_)
      obtain ⟨hp, hzr22⟩ := hp
      obtain ⟨hp, rfl⟩ := hp
      have hF := hF.trans (kb_some hp _)
      refine lv_if_eq (tgt := 36) hx hb dX8_drawn_24 (by decide) (fun c24 => ?_) (fun c24 => ?_)
      · skip
        have hF := hF.trans (if_pos c24)
        refine lv_ldc (v := (-1000001)) hx hb hown (hts (.constant RX8 64 (-1000001)) ow_X8_drawn_64) dX8_drawn_36 ?_
        exact hret _ _ _ _ _ _ hw dX8_drawn_38 ⟨hF, rfl⟩
      · skip
        have hF := hF.trans (if_neg c24)
        refine lv_iload_n hx hb dX8_drawn_27 rfl (lv_at hl 3 rfl) ?_
        refine lv_iconst (v := 0) hx hb dX8_drawn_28 (by decide) ?_
        refine lv_iconst (v := 1) hx hb dX8_drawn_29 (by decide) ?_
        have hs25 : g_X8_in v a3 0 1 ≠ none := fun q => hs (hF.trans (kb_n q _))
        refine km_cS (As := [.int a3, .int 0, .int 1]) (rest := []) (n := 3) ⟨hx, hb, hml, hown, hts⟩ (d_X8_in l E Z v a3 0 1 hs25) gX8_drawn_X8_in rfl hV_X8_in ⟨Nat.le_of_ble_eq_true rfl, Nat.le_of_ble_eq_true rfl⟩ hK hw rfl hl.1 rfl (Nat.le_of_ble_eq_true rfl) dX8_drawn_30 rfl rfl (fun r26 v27 H locs hp hw => ?_)
        obtain ⟨hp, hzr26⟩ := hp
        obtain ⟨hp, rfl⟩ := hp
        have hF := hF.trans (kb_some hp _)
        refine lv_if_ne (tgt := 39) hx hb dX8_drawn_33 (by decide) (fun c28 => ?_) (fun c28 => ?_)
        · skip
          have hF := hF.trans (if_neg c28)
          refine lv_iload_n hx hb dX8_drawn_39 rfl (lv_at hl 2 rfl) ?_
          refine lv_i2l (v := a2.toInt64) hx hb dX8_drawn_40 rfl ?_
          refine lv_lstore (lv' := [(4, .long a2.toInt64), (0, .ref (Z.1 30 0)), (1, .int a1), (2, .int a2), (3, .int a3)]) hx hb dX8_drawn_41 hl (by decide) rfl (fun ls hl => ?_)
          refine lv_iconst (v := 0) hx hb dX8_drawn_43 (by decide) ?_
          refine lv_istore (lv' := [(6, .int 0), (4, .long a2.toInt64), (0, .ref (Z.1 30 0)), (1, .int a1), (2, .int a2), (3, .int a3)]) hx hb dX8_drawn_44 hl (by decide) rfl (fun ls hl => ?_)
          refine lv_iconst (v := 0) hx hb dX8_drawn_46 (by decide) ?_
          refine lv_istore (lv' := [(7, .int 0), (6, .int 0), (4, .long a2.toInt64), (0, .ref (Z.1 30 0)), (1, .int a1), (2, .int a2), (3, .int a3)]) hx hb dX8_drawn_47 hl (by decide) rfl (fun ls hl => ?_)
          refine lv_iconst (v := 0) hx hb dX8_drawn_49 (by decide) ?_
          refine lv_istore (lv' := [(8, .int 0), (7, .int 0), (6, .int 0), (4, .long a2.toInt64), (0, .ref (Z.1 30 0)), (1, .int a1), (2, .int a2), (3, .int a3)]) hx hb dX8_drawn_50 hl (by decide) rfl (fun ls hl => ?_)
          have hl := lv_sub (l' := [(0, .ref (Z.1 30 0)), (1, .int a1), (2, .int a2), (3, .int a3), (4, .long a2.toInt64), (6, .int 0), (7, .int 0), (8, .int 0)]) hl [4, 5, 6, 7, 3, 2, 1, 0] rfl
          exact loop52 2000 a2.toInt64 0 0 0 _ _ _ hF hw hl
        · skip
          have hF := hF.trans (if_pos c28)
          refine lv_ldc (v := (-1000001)) hx hb hown (hts (.constant RX8 64 (-1000001)) ow_X8_drawn_64) dX8_drawn_36 ?_
          exact hret _ _ _ _ _ _ hw dX8_drawn_38 ⟨hF, rfl⟩
  · skip
    have hF := hF.trans (if_pos c16)
    refine lv_ldc (v := (-1000002)) hx hb hown (hts (.constant RX8 183 (-1000002)) ow_X8_drawn_183) dX8_drawn_7 ?_
    exact hret _ _ _ _ _ _ hw dX8_drawn_9 ⟨hF, rfl⟩
abbrev rmX8_image : Room := { frames := 1, cells := 0, slots := 0, locals := 24 }
def g_X8_image (v : Mm) (a1 : Int32) : Option (Int32 × Mm) := Option.bind (g_X8_in v a1 0 1) (fun r2 => if r2 = 0 then (some ((-1000001), v)) else (Option.bind (g_X8_isGate v) (fun r6 => if r6 = 0 then (some ((-1000002), v)) else (Option.bind (g_X8_copies_36_40 v 0 ((65 : Int32) * a1)) (fun v11 => if a1 < 0 ∨ 2 ≤ Int32.toNatClampNeg a1 then none else (Option.bind (some (up3 v11 41 0 (Int32.toNatClampNeg a1) 1)) (fun v13 => some (1, v13))))))))
set_option maxHeartbeats 4000000 in
set_option maxRecDepth 100000 in
theorem d_X8_image (l : Launch) (E : kq_T) (Z : km_Z) (v : Mm) (a1 : Int32) (hs : g_X8_image v a1 ≠ none) : km_I l E Z cntM yX8_image wsX8_image rmX8_image [.ref (Z.1 30 0), .int a1] v (fun r v1 => g_X8_image v a1 = some (r, v1)) := by
  refine km_goI (cc := cX8_image) (maxL := 2) (by decide) rfl (Nat.le_of_ble_eq_true rfl) rfl rfl rfl ?_
  intro p e s m below meth c A ls Q C hK hw hl hret
  obtain ⟨hx, hb, hml, hown, hts, -, -, -⟩ := C
  have hown : s.vm.findClass RX8 = some m.cls := hown
  have hl : lv_has ls 2 [(0, .ref (Z.1 30 0)), (1, .int a1)] := hl
  have hF := g_X8_image.eq_1 v a1
  refine lv_iload_n hx hb dX8_image_0 rfl (lv_at hl 1 rfl) ?_
  refine lv_iconst (v := 0) hx hb dX8_image_1 (by decide) ?_
  refine lv_iconst (v := 1) hx hb dX8_image_2 (by decide) ?_
  have hs1 : g_X8_in v a1 0 1 ≠ none := fun q => hs (hF.trans (kb_n q _))
  refine km_cS (As := [.int a1, .int 0, .int 1]) (rest := []) (n := 3) ⟨hx, hb, hml, hown, hts⟩ (d_X8_in l E Z v a1 0 1 hs1) gX8_image_X8_in rfl hV_X8_in ⟨Nat.le_of_ble_eq_true rfl, Nat.le_of_ble_eq_true rfl⟩ hK hw rfl hl.1 rfl (Nat.le_of_ble_eq_true rfl) dX8_image_3 rfl rfl (fun r2 v3 H locs hp hw => ?_)
  obtain ⟨hp, hzr2⟩ := hp
  obtain ⟨hp, rfl⟩ := hp
  have hF := hF.trans (kb_some hp _)
  refine lv_if_ne (tgt := 12) hx hb dX8_image_6 (by decide) (fun c4 => ?_) (fun c4 => ?_)
  · skip
    have hF := hF.trans (if_neg c4)
    refine lv_aload_n hx hb dX8_image_12 rfl (lv_at hl 0 rfl) ?_
    have hs5 : g_X8_isGate v ≠ none := fun q => hs (hF.trans (kb_n q _))
    refine km_cI (As := []) (rest := []) (n := 0) (q := (RX8, TX8, 23)) (ci := 8) (t := 30) (i := 0) ⟨hx, hb, hml, hown, hts⟩ (d_X8_isGate l E Z v  hs5) gX8_image_X8_isGate rfl hV_X8_isGate ⟨Nat.le_of_ble_eq_true rfl, Nat.le_of_ble_eq_true rfl⟩ hK hw (by decide) (by decide) rfl rfl rfl hl.1 rfl (Nat.le_of_ble_eq_true rfl) dX8_image_13 rfl rfl (fun r6 v7 H locs hp hw => ?_)
    obtain ⟨hp, hzr6⟩ := hp
    obtain ⟨hp, rfl⟩ := hp
    have hF := hF.trans (kb_some hp _)
    refine lv_if_ne (tgt := 22) hx hb dX8_image_16 (by decide) (fun c8 => ?_) (fun c8 => ?_)
    · skip
      have hF := hF.trans (if_neg c8)
      refine lv_aload_n hx hb dX8_image_22 rfl (lv_at hl 0 rfl) ?_
      refine km_get (ci := 8) (C := RX8) (T := TX8) (N := 23) (t := 30) (i := 0) hx hb hts fi_X8_image_X8 hown hK hw (by decide) (by decide) rfl rfl 13 (by decide) (hts (.fieldLink RX8 25 "WrongWordModel" "now" "[I") ow_X8_image_25) rfl dX8_image_23 ?_
      refine lv_iconst (v := 0) hx hb dX8_image_26 (by decide) ?_
      refine lv_aload_n hx hb dX8_image_27 rfl (lv_at hl 0 rfl) ?_
      refine km_get (ci := 8) (C := RX8) (T := TX8) (N := 23) (t := 30) (i := 0) hx hb hts fi_X8_image_X8 hown hK hw (by decide) (by decide) rfl rfl 18 (by decide) (hts (.fieldLink RX8 37 "WrongWordModel" "images" "[I") ow_X8_image_37) rfl dX8_image_28 ?_
      refine lv_bipush (v := 65) hx hb dX8_image_31 (by decide) ?_
      refine lv_iload_n hx hb dX8_image_33 rfl (lv_at hl 1 rfl) ?_
      refine lv_imul hx hb dX8_image_34 ?_
      have hs9 : g_X8_copies_36_40 v 0 ((65 : Int32) * a1) ≠ none := fun q => hs (hF.trans (kb_n q _))
      refine km_cSV (As := [.ref (Z.1 36 0), .int 0, .ref (Z.1 40 0), .int ((65 : Int32) * a1)]) (rest := []) (n := 4) ⟨hx, hb, hml, hown, hts⟩ (d_X8_copies_36_40 l E Z v 0 ((65 : Int32) * a1) hs9) gX8_image_X8_copies rfl hV_X8_copies ⟨Nat.le_of_ble_eq_true rfl, Nat.le_of_ble_eq_true rfl⟩ hK hw rfl hl.1 rfl (Nat.le_of_ble_eq_true rfl) dX8_image_35 rfl rfl (fun v11 H locs hp hw => ?_)
      have hF := hF.trans (kb_some hp _)
      refine lv_aload_n hx hb dX8_image_38 rfl (lv_at hl 0 rfl) ?_
      refine km_get (ci := 8) (C := RX8) (T := TX8) (N := 23) (t := 30) (i := 0) hx hb hts fi_X8_image_X8 hown hK hw (by decide) (by decide) rfl rfl 19 (by decide) (hts (.fieldLink RX8 40 "WrongWordModel" "kept" "[Z") ow_X8_image_40) rfl dX8_image_39 ?_
      refine lv_iload_n hx hb dX8_image_42 rfl (lv_at hl 1 rfl) ?_
      refine lv_iconst (v := 1) hx hb dX8_image_43 (by decide) ?_
      have hb12 : ¬ (a1 < 0 ∨ 2 ≤ Int32.toNatClampNeg a1) := fun q => hs (hF.trans (if_pos q))
      have hF := hF.trans (if_neg hb12)
      refine km_zast (t := 41) (i := 0) (n := 2) hx hb hK hw (by decide) (by decide) (fun _ => rfl) hb12 (by decide) dX8_image_44 (fun H locs hw => ?_)
      obtain ⟨v13, ev13⟩ : ∃ z, z = up3 v11 41 0 (Int32.toNatClampNeg a1) 1 := ⟨_, rfl⟩
      rw [← ev13] at hw
      have hF := hF.trans (kb_some (congrArg some ev13.symm) _)
      refine lv_iconst (v := 1) hx hb dX8_image_45 (by decide) ?_
      exact hret _ _ _ _ _ _ hw dX8_image_46 hF
    · skip
      have hF := hF.trans (if_pos c8)
      refine lv_ldc (v := (-1000002)) hx hb hown (hts (.constant RX8 183 (-1000002)) ow_X8_image_183) dX8_image_19 ?_
      exact hret _ _ _ _ _ _ hw dX8_image_21 hF
  · skip
    have hF := hF.trans (if_pos c4)
    refine lv_ldc (v := (-1000001)) hx hb hown (hts (.constant RX8 64 (-1000001)) ow_X8_image_64) dX8_image_9 ?_
    exact hret _ _ _ _ _ _ hw dX8_image_11 hF
abbrev rmX8_restore : Room := { frames := 1, cells := 0, slots := 0, locals := 24 }
def g_X8_restore (v : Mm) (a1 : Int32) : Option (Int32 × Mm) := Option.bind (g_X8_in v a1 0 1) (fun r2 => if r2 = 0 then (some ((-1000001), v)) else (if a1 < 0 ∨ 2 ≤ Int32.toNatClampNeg a1 then none else (if v 41 0 (Int32.toNatClampNeg a1) = 0 then (some ((-1000002), v)) else (Option.bind (g_X8_copies_40_36 v ((65 : Int32) * a1) 0) (fun v9 => Option.bind (some (up3 v9 30 0 17 0)) (fun v10 => some (1, v10)))))))
set_option maxHeartbeats 4000000 in
set_option maxRecDepth 100000 in
theorem d_X8_restore (l : Launch) (E : kq_T) (Z : km_Z) (v : Mm) (a1 : Int32) (hs : g_X8_restore v a1 ≠ none) : km_I l E Z cntM yX8_restore wsX8_restore rmX8_restore [.ref (Z.1 30 0), .int a1] v (fun r v1 => g_X8_restore v a1 = some (r, v1)) := by
  refine km_goI (cc := cX8_restore) (maxL := 2) (by decide) rfl (Nat.le_of_ble_eq_true rfl) rfl rfl rfl ?_
  intro p e s m below meth c A ls Q C hK hw hl hret
  obtain ⟨hx, hb, hml, hown, hts, -, -, -⟩ := C
  have hown : s.vm.findClass RX8 = some m.cls := hown
  have hl : lv_has ls 2 [(0, .ref (Z.1 30 0)), (1, .int a1)] := hl
  have hF := g_X8_restore.eq_1 v a1
  refine lv_iload_n hx hb dX8_restore_0 rfl (lv_at hl 1 rfl) ?_
  refine lv_iconst (v := 0) hx hb dX8_restore_1 (by decide) ?_
  refine lv_iconst (v := 1) hx hb dX8_restore_2 (by decide) ?_
  have hs1 : g_X8_in v a1 0 1 ≠ none := fun q => hs (hF.trans (kb_n q _))
  refine km_cS (As := [.int a1, .int 0, .int 1]) (rest := []) (n := 3) ⟨hx, hb, hml, hown, hts⟩ (d_X8_in l E Z v a1 0 1 hs1) gX8_restore_X8_in rfl hV_X8_in ⟨Nat.le_of_ble_eq_true rfl, Nat.le_of_ble_eq_true rfl⟩ hK hw rfl hl.1 rfl (Nat.le_of_ble_eq_true rfl) dX8_restore_3 rfl rfl (fun r2 v3 H locs hp hw => ?_)
  obtain ⟨hp, hzr2⟩ := hp
  obtain ⟨hp, rfl⟩ := hp
  have hF := hF.trans (kb_some hp _)
  refine lv_if_ne (tgt := 12) hx hb dX8_restore_6 (by decide) (fun c4 => ?_) (fun c4 => ?_)
  · skip
    have hF := hF.trans (if_neg c4)
    refine lv_aload_n hx hb dX8_restore_12 rfl (lv_at hl 0 rfl) ?_
    refine km_get (ci := 8) (C := RX8) (T := TX8) (N := 23) (t := 30) (i := 0) hx hb hts fi_X8_restore_X8 hown hK hw (by decide) (by decide) rfl rfl 19 (by decide) (hts (.fieldLink RX8 40 "WrongWordModel" "kept" "[Z") ow_X8_restore_40) rfl dX8_restore_13 ?_
    refine lv_iload_n hx hb dX8_restore_16 rfl (lv_at hl 1 rfl) ?_
    have hb5 : ¬ (a1 < 0 ∨ 2 ≤ Int32.toNatClampNeg a1) := fun q => hs (hF.trans (if_pos q))
    have hF := hF.trans (if_neg hb5)
    refine km_zald (t := 41) (i := 0) hx hb hK hw (by decide) (by decide) rfl hb5 dX8_restore_17 ?_
    refine lv_if_ne (tgt := 24) hx hb dX8_restore_18 (by decide) (fun c6 => ?_) (fun c6 => ?_)
    · skip
      have hF := hF.trans (if_neg c6)
      refine lv_aload_n hx hb dX8_restore_24 rfl (lv_at hl 0 rfl) ?_
      refine km_get (ci := 8) (C := RX8) (T := TX8) (N := 23) (t := 30) (i := 0) hx hb hts fi_X8_restore_X8 hown hK hw (by decide) (by decide) rfl rfl 18 (by decide) (hts (.fieldLink RX8 37 "WrongWordModel" "images" "[I") ow_X8_restore_37) rfl dX8_restore_25 ?_
      refine lv_bipush (v := 65) hx hb dX8_restore_28 (by decide) ?_
      refine lv_iload_n hx hb dX8_restore_30 rfl (lv_at hl 1 rfl) ?_
      refine lv_imul hx hb dX8_restore_31 ?_
      refine lv_aload_n hx hb dX8_restore_32 rfl (lv_at hl 0 rfl) ?_
      refine km_get (ci := 8) (C := RX8) (T := TX8) (N := 23) (t := 30) (i := 0) hx hb hts fi_X8_restore_X8 hown hK hw (by decide) (by decide) rfl rfl 13 (by decide) (hts (.fieldLink RX8 25 "WrongWordModel" "now" "[I") ow_X8_restore_25) rfl dX8_restore_33 ?_
      refine lv_iconst (v := 0) hx hb dX8_restore_36 (by decide) ?_
      have hs7 : g_X8_copies_40_36 v ((65 : Int32) * a1) 0 ≠ none := fun q => hs (hF.trans (kb_n q _))
      refine km_cSV (As := [.ref (Z.1 40 0), .int ((65 : Int32) * a1), .ref (Z.1 36 0), .int 0]) (rest := []) (n := 4) ⟨hx, hb, hml, hown, hts⟩ (d_X8_copies_40_36 l E Z v ((65 : Int32) * a1) 0 hs7) gX8_restore_X8_copies rfl hV_X8_copies ⟨Nat.le_of_ble_eq_true rfl, Nat.le_of_ble_eq_true rfl⟩ hK hw rfl hl.1 rfl (Nat.le_of_ble_eq_true rfl) dX8_restore_37 rfl rfl (fun v9 H locs hp hw => ?_)
      have hF := hF.trans (kb_some hp _)
      refine lv_aload_n hx hb dX8_restore_40 rfl (lv_at hl 0 rfl) ?_
      refine lv_iconst (v := 0) hx hb dX8_restore_41 (by decide) ?_
      refine km_put (ci := 8) (C := RX8) (T := TX8) (N := 23) (t := 30) (i := 0) hx hb hts fi_X8_restore_X8 tyX8 tyX8_ok nmX8 hown hK hw (by decide) (by decide) rfl rfl 17 (by decide) (hts (.fieldLink RX8 149 "WrongWordModel" "acts" "I") ow_X8_restore_149) rfl (by decide +kernel) (Nat.le_of_ble_eq_true rfl) rfl dX8_restore_42 (fun H locs hw => ?_)
      obtain ⟨v10, ev10⟩ : ∃ z, z = up3 v9 30 0 17 0 := ⟨_, rfl⟩
      rw [← ev10] at hw
      have hF := hF.trans (kb_some (congrArg some ev10.symm) _)
      refine lv_iconst (v := 1) hx hb dX8_restore_45 (by decide) ?_
      exact hret _ _ _ _ _ _ hw dX8_restore_46 hF
    · skip
      have hF := hF.trans (if_pos c6)
      refine lv_ldc (v := (-1000002)) hx hb hown (hts (.constant RX8 183 (-1000002)) ow_X8_restore_183) dX8_restore_21 ?_
      exact hret _ _ _ _ _ _ hw dX8_restore_23 hF
  · skip
    have hF := hF.trans (if_pos c4)
    refine lv_ldc (v := (-1000001)) hx hb hown (hts (.constant RX8 64 (-1000001)) ow_X8_restore_64) dX8_restore_9 ?_
    exact hret _ _ _ _ _ _ hw dX8_restore_11 hF
abbrev rmX8_kind : Room := { frames := 2, cells := 0, slots := 0, locals := 43 }
def g_X8_kind (v : Mm) (a1 : Int32) : Option (Int32) := Option.bind (g_X8_isGuard v a1) (fun r2 => if r2 = 0 then (some ((-1000001))) else (Option.bind (g_X8_kindIn v a1) (fun r6 => some r6)))
set_option maxHeartbeats 4000000 in
set_option maxRecDepth 100000 in
theorem d_X8_kind (l : Launch) (E : kq_T) (Z : km_Z) (v : Mm) (a1 : Int32) (hs : g_X8_kind v a1 ≠ none) : km_I l E Z cntM yX8_kind wsX8_kind rmX8_kind [.ref (Z.1 30 0), .int a1] v (fun r v1 => g_X8_kind v a1 = some r ∧ v = v1) := by
  refine km_goI (cc := cX8_kind) (maxL := 2) (by decide) rfl (Nat.le_of_ble_eq_true rfl) rfl rfl rfl ?_
  intro p e s m below meth c A ls Q C hK hw hl hret
  obtain ⟨hx, hb, hml, hown, hts, -, -, -⟩ := C
  have hown : s.vm.findClass RX8 = some m.cls := hown
  have hl : lv_has ls 2 [(0, .ref (Z.1 30 0)), (1, .int a1)] := hl
  have hF := g_X8_kind.eq_1 v a1
  refine lv_aload_n hx hb dX8_kind_0 rfl (lv_at hl 0 rfl) ?_
  refine lv_iload_n hx hb dX8_kind_1 rfl (lv_at hl 1 rfl) ?_
  have hs1 : g_X8_isGuard v a1 ≠ none := fun q => hs (hF.trans (kb_n q _))
  refine km_cI (As := [.int a1]) (rest := []) (n := 1) (q := (RX8, TX8, 23)) (ci := 8) (t := 30) (i := 0) ⟨hx, hb, hml, hown, hts⟩ (d_X8_isGuard l E Z v a1 hs1) gX8_kind_X8_isGuard rfl hV_X8_isGuard ⟨Nat.le_of_ble_eq_true rfl, Nat.le_of_ble_eq_true rfl⟩ hK hw (by decide) (by decide) rfl rfl rfl hl.1 rfl (Nat.le_of_ble_eq_true rfl) dX8_kind_2 rfl rfl (fun r2 v3 H locs hp hw => ?_)
  obtain ⟨hp, hzr2⟩ := hp
  obtain ⟨hp, rfl⟩ := hp
  have hF := hF.trans (kb_some hp _)
  refine lv_if_eq (tgt := 16) hx hb dX8_kind_5 (by decide) (fun c4 => ?_) (fun c4 => ?_)
  · skip
    have hF := hF.trans (if_pos c4)
    refine lv_ldc (v := (-1000001)) hx hb hown (hts (.constant RX8 64 (-1000001)) ow_X8_kind_64) dX8_kind_16 ?_
    exact hret _ _ _ _ _ _ hw dX8_kind_18 ⟨hF, rfl⟩
  · skip
    have hF := hF.trans (if_neg c4)
    refine lv_aload_n hx hb dX8_kind_8 rfl (lv_at hl 0 rfl) ?_
    refine lv_iload_n hx hb dX8_kind_9 rfl (lv_at hl 1 rfl) ?_
    have hs5 : g_X8_kindIn v a1 ≠ none := fun q => hs (hF.trans (kb_n q _))
    refine km_cI (As := [.int a1]) (rest := []) (n := 1) (q := (RX8, TX8, 23)) (ci := 8) (t := 30) (i := 0) ⟨hx, hb, hml, hown, hts⟩ (d_X8_kindIn l E Z v a1 hs5) gX8_kind_X8_kindIn rfl hV_X8_kindIn ⟨Nat.le_of_ble_eq_true rfl, Nat.le_of_ble_eq_true rfl⟩ hK hw (by decide) (by decide) rfl rfl rfl hl.1 rfl (Nat.le_of_ble_eq_true rfl) dX8_kind_10 rfl rfl (fun r6 v7 H locs hp hw => ?_)
    obtain ⟨hp, rfl⟩ := hp
    have hF := hF.trans (kb_some hp _)
    refine lv_goto (tgt := 18) hx hb dX8_kind_13 (by decide) ?_
    exact hret _ _ _ _ _ _ hw dX8_kind_18 ⟨hF, rfl⟩
abbrev rmX8_as : Room := { frames := 2, cells := 0, slots := 0, locals := 43 }
def g_X8_as (v : Mm) (a1 : Int32) (a2 : Int32) : Option (Int32 × Mm) := Option.bind (g_X8_isGuard v a1) (fun r2 => if r2 = 0 then (some ((-1000001), v)) else (Option.bind (g_X8_in v a2 0 5) (fun r6 => if r6 = 0 then (some ((-1000001), v)) else (Option.bind (g_X8_kindIn v a1) (fun r10 => if a2 = 0 then (kb2 (g_X8_well v a1) (fun r15 v16 => some (r15, v16))) else (if a2 = r10 then (kb2 (g_X8_well v a1) (fun r20 v21 => some (r20, v21))) else (if a2 = 1 then (if r10 < 4 then (kb2 (g_X8_well v a1) (fun r40 v41 => some (r40, v41))) else (if a2 = 4 then (if r10 = 5 then (kb2 (g_X8_well v a1) (fun r54 v55 => some (r54, v55))) else (kb2 (g_X8_found v 3) (fun r50 v51 => some (r50, v51)))) else (kb2 (g_X8_found v 3) (fun r45 v46 => some (r45, v46))))) else (if a2 = 4 then (if r10 = 5 then (kb2 (g_X8_well v a1) (fun r35 v36 => some (r35, v36))) else (kb2 (g_X8_found v 3) (fun r31 v32 => some (r31, v32)))) else (kb2 (g_X8_found v 3) (fun r26 v27 => some (r26, v27)))))))))))
set_option maxHeartbeats 4000000 in
set_option maxRecDepth 100000 in
theorem d_X8_as (l : Launch) (E : kq_T) (Z : km_Z) (v : Mm) (a1 : Int32) (a2 : Int32) (hs : g_X8_as v a1 a2 ≠ none) : km_I l E Z cntM yX8_as wsX8_as rmX8_as [.ref (Z.1 30 0), .int a1, .int a2] v (fun r v1 => g_X8_as v a1 a2 = some (r, v1)) := by
  refine km_goI (cc := cX8_as) (maxL := 5) (by decide) rfl (Nat.le_of_ble_eq_true rfl) rfl rfl rfl ?_
  intro p e s m below meth c A ls Q C hK hw hl hret
  obtain ⟨hx, hb, hml, hown, hts, -, -, -⟩ := C
  have hown : s.vm.findClass RX8 = some m.cls := hown
  have hl : lv_has ls 5 [(0, .ref (Z.1 30 0)), (1, .int a1), (2, .int a2)] := hl
  have hF := g_X8_as.eq_1 v a1 a2
  refine lv_aload_n hx hb dX8_as_0 rfl (lv_at hl 0 rfl) ?_
  refine lv_iload_n hx hb dX8_as_1 rfl (lv_at hl 1 rfl) ?_
  have hs1 : g_X8_isGuard v a1 ≠ none := fun q => hs (hF.trans (kb_n q _))
  refine km_cI (As := [.int a1]) (rest := []) (n := 1) (q := (RX8, TX8, 23)) (ci := 8) (t := 30) (i := 0) ⟨hx, hb, hml, hown, hts⟩ (d_X8_isGuard l E Z v a1 hs1) gX8_as_X8_isGuard rfl hV_X8_isGuard ⟨Nat.le_of_ble_eq_true rfl, Nat.le_of_ble_eq_true rfl⟩ hK hw (by decide) (by decide) rfl rfl rfl hl.1 rfl (Nat.le_of_ble_eq_true rfl) dX8_as_2 rfl rfl (fun r2 v3 H locs hp hw => ?_)
  obtain ⟨hp, hzr2⟩ := hp
  obtain ⟨hp, rfl⟩ := hp
  have hF := hF.trans (kb_some hp _)
  refine lv_if_eq (tgt := 17) hx hb dX8_as_5 (by decide) (fun c4 => ?_) (fun c4 => ?_)
  · skip
    have hF := hF.trans (if_pos c4)
    refine lv_ldc (v := (-1000001)) hx hb hown (hts (.constant RX8 64 (-1000001)) ow_X8_as_64) dX8_as_17 ?_
    exact hret _ _ _ _ _ _ hw dX8_as_19 hF
  · skip
    have hF := hF.trans (if_neg c4)
    refine lv_iload_n hx hb dX8_as_8 rfl (lv_at hl 2 rfl) ?_
    refine lv_iconst (v := 0) hx hb dX8_as_9 (by decide) ?_
    refine lv_iconst (v := 5) hx hb dX8_as_10 (by decide) ?_
    have hs5 : g_X8_in v a2 0 5 ≠ none := fun q => hs (hF.trans (kb_n q _))
    refine km_cS (As := [.int a2, .int 0, .int 5]) (rest := []) (n := 3) ⟨hx, hb, hml, hown, hts⟩ (d_X8_in l E Z v a2 0 5 hs5) gX8_as_X8_in rfl hV_X8_in ⟨Nat.le_of_ble_eq_true rfl, Nat.le_of_ble_eq_true rfl⟩ hK hw rfl hl.1 rfl (Nat.le_of_ble_eq_true rfl) dX8_as_11 rfl rfl (fun r6 v7 H locs hp hw => ?_)
    obtain ⟨hp, hzr6⟩ := hp
    obtain ⟨hp, rfl⟩ := hp
    have hF := hF.trans (kb_some hp _)
    refine lv_if_ne (tgt := 20) hx hb dX8_as_14 (by decide) (fun c8 => ?_) (fun c8 => ?_)
    · skip
      have hF := hF.trans (if_neg c8)
      refine lv_aload_n hx hb dX8_as_20 rfl (lv_at hl 0 rfl) ?_
      refine lv_iload_n hx hb dX8_as_21 rfl (lv_at hl 1 rfl) ?_
      have hs9 : g_X8_kindIn v a1 ≠ none := fun q => hs (hF.trans (kb_n q _))
      refine km_cI (As := [.int a1]) (rest := []) (n := 1) (q := (RX8, TX8, 23)) (ci := 8) (t := 30) (i := 0) ⟨hx, hb, hml, hown, hts⟩ (d_X8_kindIn l E Z v a1 hs9) gX8_as_X8_kindIn rfl hV_X8_kindIn ⟨Nat.le_of_ble_eq_true rfl, Nat.le_of_ble_eq_true rfl⟩ hK hw (by decide) (by decide) rfl rfl rfl hl.1 rfl (Nat.le_of_ble_eq_true rfl) dX8_as_22 rfl rfl (fun r10 v11 H locs hp hw => ?_)
      obtain ⟨hp, rfl⟩ := hp
      have hF := hF.trans (kb_some hp _)
      refine lv_istore_n (lv' := [(3, .int r10), (0, .ref (Z.1 30 0)), (1, .int a1), (2, .int a2)]) hx hb dX8_as_25 rfl hl (by decide) rfl (fun ls hl => ?_)
      refine lv_iload_n hx hb dX8_as_26 rfl (lv_at hl 3 rfl) ?_
      refine lv_if_eq (tgt := 55) hx hb dX8_as_27 (by decide) (fun c12 => ?_) (fun c12 => ?_)
      · skip
        have hF := hF.trans (if_pos c12)
        refine lv_iconst (v := 1) hx hb dX8_as_55 (by decide) ?_
        refine lv_goto (tgt := 60) hx hb dX8_as_56 (by decide) ?_
        refine lv_istore (lv' := [(4, .int 1), (3, .int r10), (0, .ref (Z.1 30 0)), (1, .int a1), (2, .int a2)]) hx hb dX8_as_60 hl (by decide) rfl (fun ls hl => ?_)
        refine lv_iload hx hb dX8_as_62 (lv_at hl 0 rfl) ?_
        refine lv_if_eq (tgt := 75) hx hb dX8_as_64 (by decide) (fun c13 => ?_) (fun c13 => ?_)
        · exact absurd c13 (by decide)
        refine lv_aload_n hx hb dX8_as_67 rfl (lv_at hl 2 rfl) ?_
        refine lv_iload_n hx hb dX8_as_68 rfl (lv_at hl 3 rfl) ?_
        have hs14 : g_X8_well v a1 ≠ none := fun q => hs (hF.trans (kb2_n q _))
        refine km_cI (As := [.int a1]) (rest := []) (n := 1) (q := (RX8, TX8, 23)) (ci := 8) (t := 30) (i := 0) ⟨hx, hb, hml, hown, hts⟩ (d_X8_well l E Z v a1 hs14) gX8_as_X8_well rfl hV_X8_well ⟨Nat.le_of_ble_eq_true rfl, Nat.le_of_ble_eq_true rfl⟩ hK hw (by decide) (by decide) rfl rfl rfl hl.1 rfl (Nat.le_of_ble_eq_true rfl) dX8_as_69 rfl rfl (fun r15 v16 H locs hp hw => ?_)
        have hF := hF.trans (kb2_some hp _)
        refine lv_goto (tgt := 80) hx hb dX8_as_72 (by decide) ?_
        exact hret _ _ _ _ _ _ hw dX8_as_80 hF
      · skip
        have hF := hF.trans (if_neg c12)
        refine lv_iload_n hx hb dX8_as_30 rfl (lv_at hl 3 rfl) ?_
        refine lv_iload_n hx hb dX8_as_31 rfl (lv_at hl 0 rfl) ?_
        refine lv_icmp_eq (tgt := 55) hx hb dX8_as_32 (by decide) (fun c17 => ?_) (fun c17 => ?_)
        · skip
          have hF := hF.trans (if_pos c17)
          refine lv_iconst (v := 1) hx hb dX8_as_55 (by decide) ?_
          refine lv_goto (tgt := 60) hx hb dX8_as_56 (by decide) ?_
          refine lv_istore (lv' := [(4, .int 1), (3, .int r10), (0, .ref (Z.1 30 0)), (1, .int a1), (2, .int a2)]) hx hb dX8_as_60 hl (by decide) rfl (fun ls hl => ?_)
          refine lv_iload hx hb dX8_as_62 (lv_at hl 0 rfl) ?_
          refine lv_if_eq (tgt := 75) hx hb dX8_as_64 (by decide) (fun c18 => ?_) (fun c18 => ?_)
          · exact absurd c18 (by decide)
          refine lv_aload_n hx hb dX8_as_67 rfl (lv_at hl 2 rfl) ?_
          refine lv_iload_n hx hb dX8_as_68 rfl (lv_at hl 3 rfl) ?_
          have hs19 : g_X8_well v a1 ≠ none := fun q => hs (hF.trans (kb2_n q _))
          refine km_cI (As := [.int a1]) (rest := []) (n := 1) (q := (RX8, TX8, 23)) (ci := 8) (t := 30) (i := 0) ⟨hx, hb, hml, hown, hts⟩ (d_X8_well l E Z v a1 hs19) gX8_as_X8_well rfl hV_X8_well ⟨Nat.le_of_ble_eq_true rfl, Nat.le_of_ble_eq_true rfl⟩ hK hw (by decide) (by decide) rfl rfl rfl hl.1 rfl (Nat.le_of_ble_eq_true rfl) dX8_as_69 rfl rfl (fun r20 v21 H locs hp hw => ?_)
          have hF := hF.trans (kb2_some hp _)
          refine lv_goto (tgt := 80) hx hb dX8_as_72 (by decide) ?_
          exact hret _ _ _ _ _ _ hw dX8_as_80 hF
        · skip
          have hF := hF.trans (if_neg c17)
          refine lv_iload_n hx hb dX8_as_35 rfl (lv_at hl 3 rfl) ?_
          refine lv_iconst (v := 1) hx hb dX8_as_36 (by decide) ?_
          refine lv_icmp_ne (tgt := 45) hx hb dX8_as_37 (by decide) (fun c22 => ?_) (fun c22 => ?_)
          · skip
            have hF := hF.trans (if_neg c22)
            refine lv_iload_n hx hb dX8_as_45 rfl (lv_at hl 3 rfl) ?_
            refine lv_iconst (v := 4) hx hb dX8_as_46 (by decide) ?_
            refine lv_icmp_ne (tgt := 59) hx hb dX8_as_47 (by decide) (fun c23 => ?_) (fun c23 => ?_)
            · skip
              have hF := hF.trans (if_neg c23)
              refine lv_iconst (v := 0) hx hb dX8_as_59 (by decide) ?_
              refine lv_istore (lv' := [(4, .int 0), (3, .int r10), (0, .ref (Z.1 30 0)), (1, .int a1), (2, .int a2)]) hx hb dX8_as_60 hl (by decide) rfl (fun ls hl => ?_)
              refine lv_iload hx hb dX8_as_62 (lv_at hl 0 rfl) ?_
              refine lv_if_eq (tgt := 75) hx hb dX8_as_64 (by decide) (fun c24 => ?_) (fun c24 => ?_)
              rotate_left
              · exact absurd (by decide) c24
              refine lv_aload_n hx hb dX8_as_75 rfl (lv_at hl 2 rfl) ?_
              refine lv_iconst (v := 3) hx hb dX8_as_76 (by decide) ?_
              have hs25 : g_X8_found v 3 ≠ none := fun q => hs (hF.trans (kb2_n q _))
              refine km_cI (As := [.int 3]) (rest := []) (n := 1) (q := (RX8, TX8, 23)) (ci := 8) (t := 30) (i := 0) ⟨hx, hb, hml, hown, hts⟩ (d_X8_found l E Z v 3 hs25) gX8_as_X8_found rfl hV_X8_found ⟨Nat.le_of_ble_eq_true rfl, Nat.le_of_ble_eq_true rfl⟩ hK hw (by decide) (by decide) rfl rfl rfl hl.1 rfl (Nat.le_of_ble_eq_true rfl) dX8_as_77 rfl rfl (fun r26 v27 H locs hp hw => ?_)
              have hF := hF.trans (kb2_some hp _)
              exact hret _ _ _ _ _ _ hw dX8_as_80 hF
            · skip
              have hF := hF.trans (if_pos c23)
              refine lv_iload_n hx hb dX8_as_50 rfl (lv_at hl 0 rfl) ?_
              refine lv_iconst (v := 5) hx hb dX8_as_51 (by decide) ?_
              refine lv_icmp_ne (tgt := 59) hx hb dX8_as_52 (by decide) (fun c28 => ?_) (fun c28 => ?_)
              · skip
                have hF := hF.trans (if_neg c28)
                refine lv_iconst (v := 0) hx hb dX8_as_59 (by decide) ?_
                refine lv_istore (lv' := [(4, .int 0), (3, .int r10), (0, .ref (Z.1 30 0)), (1, .int a1), (2, .int a2)]) hx hb dX8_as_60 hl (by decide) rfl (fun ls hl => ?_)
                refine lv_iload hx hb dX8_as_62 (lv_at hl 0 rfl) ?_
                refine lv_if_eq (tgt := 75) hx hb dX8_as_64 (by decide) (fun c29 => ?_) (fun c29 => ?_)
                rotate_left
                · exact absurd (by decide) c29
                refine lv_aload_n hx hb dX8_as_75 rfl (lv_at hl 2 rfl) ?_
                refine lv_iconst (v := 3) hx hb dX8_as_76 (by decide) ?_
                have hs30 : g_X8_found v 3 ≠ none := fun q => hs (hF.trans (kb2_n q _))
                refine km_cI (As := [.int 3]) (rest := []) (n := 1) (q := (RX8, TX8, 23)) (ci := 8) (t := 30) (i := 0) ⟨hx, hb, hml, hown, hts⟩ (d_X8_found l E Z v 3 hs30) gX8_as_X8_found rfl hV_X8_found ⟨Nat.le_of_ble_eq_true rfl, Nat.le_of_ble_eq_true rfl⟩ hK hw (by decide) (by decide) rfl rfl rfl hl.1 rfl (Nat.le_of_ble_eq_true rfl) dX8_as_77 rfl rfl (fun r31 v32 H locs hp hw => ?_)
                have hF := hF.trans (kb2_some hp _)
                exact hret _ _ _ _ _ _ hw dX8_as_80 hF
              · skip
                have hF := hF.trans (if_pos c28)
                refine lv_iconst (v := 1) hx hb dX8_as_55 (by decide) ?_
                refine lv_goto (tgt := 60) hx hb dX8_as_56 (by decide) ?_
                refine lv_istore (lv' := [(4, .int 1), (3, .int r10), (0, .ref (Z.1 30 0)), (1, .int a1), (2, .int a2)]) hx hb dX8_as_60 hl (by decide) rfl (fun ls hl => ?_)
                refine lv_iload hx hb dX8_as_62 (lv_at hl 0 rfl) ?_
                refine lv_if_eq (tgt := 75) hx hb dX8_as_64 (by decide) (fun c33 => ?_) (fun c33 => ?_)
                · exact absurd c33 (by decide)
                refine lv_aload_n hx hb dX8_as_67 rfl (lv_at hl 2 rfl) ?_
                refine lv_iload_n hx hb dX8_as_68 rfl (lv_at hl 3 rfl) ?_
                have hs34 : g_X8_well v a1 ≠ none := fun q => hs (hF.trans (kb2_n q _))
                refine km_cI (As := [.int a1]) (rest := []) (n := 1) (q := (RX8, TX8, 23)) (ci := 8) (t := 30) (i := 0) ⟨hx, hb, hml, hown, hts⟩ (d_X8_well l E Z v a1 hs34) gX8_as_X8_well rfl hV_X8_well ⟨Nat.le_of_ble_eq_true rfl, Nat.le_of_ble_eq_true rfl⟩ hK hw (by decide) (by decide) rfl rfl rfl hl.1 rfl (Nat.le_of_ble_eq_true rfl) dX8_as_69 rfl rfl (fun r35 v36 H locs hp hw => ?_)
                have hF := hF.trans (kb2_some hp _)
                refine lv_goto (tgt := 80) hx hb dX8_as_72 (by decide) ?_
                exact hret _ _ _ _ _ _ hw dX8_as_80 hF
          · skip
            have hF := hF.trans (if_pos c22)
            refine lv_iload_n hx hb dX8_as_40 rfl (lv_at hl 0 rfl) ?_
            refine lv_iconst (v := 4) hx hb dX8_as_41 (by decide) ?_
            refine lv_icmp_lt (tgt := 55) hx hb dX8_as_42 (by decide) (fun c37 => ?_) (fun c37 => ?_)
            · skip
              have hF := hF.trans (if_pos c37)
              refine lv_iconst (v := 1) hx hb dX8_as_55 (by decide) ?_
              refine lv_goto (tgt := 60) hx hb dX8_as_56 (by decide) ?_
              refine lv_istore (lv' := [(4, .int 1), (3, .int r10), (0, .ref (Z.1 30 0)), (1, .int a1), (2, .int a2)]) hx hb dX8_as_60 hl (by decide) rfl (fun ls hl => ?_)
              refine lv_iload hx hb dX8_as_62 (lv_at hl 0 rfl) ?_
              refine lv_if_eq (tgt := 75) hx hb dX8_as_64 (by decide) (fun c38 => ?_) (fun c38 => ?_)
              · exact absurd c38 (by decide)
              refine lv_aload_n hx hb dX8_as_67 rfl (lv_at hl 2 rfl) ?_
              refine lv_iload_n hx hb dX8_as_68 rfl (lv_at hl 3 rfl) ?_
              have hs39 : g_X8_well v a1 ≠ none := fun q => hs (hF.trans (kb2_n q _))
              refine km_cI (As := [.int a1]) (rest := []) (n := 1) (q := (RX8, TX8, 23)) (ci := 8) (t := 30) (i := 0) ⟨hx, hb, hml, hown, hts⟩ (d_X8_well l E Z v a1 hs39) gX8_as_X8_well rfl hV_X8_well ⟨Nat.le_of_ble_eq_true rfl, Nat.le_of_ble_eq_true rfl⟩ hK hw (by decide) (by decide) rfl rfl rfl hl.1 rfl (Nat.le_of_ble_eq_true rfl) dX8_as_69 rfl rfl (fun r40 v41 H locs hp hw => ?_)
              have hF := hF.trans (kb2_some hp _)
              refine lv_goto (tgt := 80) hx hb dX8_as_72 (by decide) ?_
              exact hret _ _ _ _ _ _ hw dX8_as_80 hF
            · skip
              have hF := hF.trans (if_neg c37)
              refine lv_iload_n hx hb dX8_as_45 rfl (lv_at hl 3 rfl) ?_
              refine lv_iconst (v := 4) hx hb dX8_as_46 (by decide) ?_
              refine lv_icmp_ne (tgt := 59) hx hb dX8_as_47 (by decide) (fun c42 => ?_) (fun c42 => ?_)
              · skip
                have hF := hF.trans (if_neg c42)
                refine lv_iconst (v := 0) hx hb dX8_as_59 (by decide) ?_
                refine lv_istore (lv' := [(4, .int 0), (3, .int r10), (0, .ref (Z.1 30 0)), (1, .int a1), (2, .int a2)]) hx hb dX8_as_60 hl (by decide) rfl (fun ls hl => ?_)
                refine lv_iload hx hb dX8_as_62 (lv_at hl 0 rfl) ?_
                refine lv_if_eq (tgt := 75) hx hb dX8_as_64 (by decide) (fun c43 => ?_) (fun c43 => ?_)
                rotate_left
                · exact absurd (by decide) c43
                refine lv_aload_n hx hb dX8_as_75 rfl (lv_at hl 2 rfl) ?_
                refine lv_iconst (v := 3) hx hb dX8_as_76 (by decide) ?_
                have hs44 : g_X8_found v 3 ≠ none := fun q => hs (hF.trans (kb2_n q _))
                refine km_cI (As := [.int 3]) (rest := []) (n := 1) (q := (RX8, TX8, 23)) (ci := 8) (t := 30) (i := 0) ⟨hx, hb, hml, hown, hts⟩ (d_X8_found l E Z v 3 hs44) gX8_as_X8_found rfl hV_X8_found ⟨Nat.le_of_ble_eq_true rfl, Nat.le_of_ble_eq_true rfl⟩ hK hw (by decide) (by decide) rfl rfl rfl hl.1 rfl (Nat.le_of_ble_eq_true rfl) dX8_as_77 rfl rfl (fun r45 v46 H locs hp hw => ?_)
                have hF := hF.trans (kb2_some hp _)
                exact hret _ _ _ _ _ _ hw dX8_as_80 hF
              · skip
                have hF := hF.trans (if_pos c42)
                refine lv_iload_n hx hb dX8_as_50 rfl (lv_at hl 0 rfl) ?_
                refine lv_iconst (v := 5) hx hb dX8_as_51 (by decide) ?_
                refine lv_icmp_ne (tgt := 59) hx hb dX8_as_52 (by decide) (fun c47 => ?_) (fun c47 => ?_)
                · skip
                  have hF := hF.trans (if_neg c47)
                  refine lv_iconst (v := 0) hx hb dX8_as_59 (by decide) ?_
                  refine lv_istore (lv' := [(4, .int 0), (3, .int r10), (0, .ref (Z.1 30 0)), (1, .int a1), (2, .int a2)]) hx hb dX8_as_60 hl (by decide) rfl (fun ls hl => ?_)
                  refine lv_iload hx hb dX8_as_62 (lv_at hl 0 rfl) ?_
                  refine lv_if_eq (tgt := 75) hx hb dX8_as_64 (by decide) (fun c48 => ?_) (fun c48 => ?_)
                  rotate_left
                  · exact absurd (by decide) c48
                  refine lv_aload_n hx hb dX8_as_75 rfl (lv_at hl 2 rfl) ?_
                  refine lv_iconst (v := 3) hx hb dX8_as_76 (by decide) ?_
                  have hs49 : g_X8_found v 3 ≠ none := fun q => hs (hF.trans (kb2_n q _))
                  refine km_cI (As := [.int 3]) (rest := []) (n := 1) (q := (RX8, TX8, 23)) (ci := 8) (t := 30) (i := 0) ⟨hx, hb, hml, hown, hts⟩ (d_X8_found l E Z v 3 hs49) gX8_as_X8_found rfl hV_X8_found ⟨Nat.le_of_ble_eq_true rfl, Nat.le_of_ble_eq_true rfl⟩ hK hw (by decide) (by decide) rfl rfl rfl hl.1 rfl (Nat.le_of_ble_eq_true rfl) dX8_as_77 rfl rfl (fun r50 v51 H locs hp hw => ?_)
                  have hF := hF.trans (kb2_some hp _)
                  exact hret _ _ _ _ _ _ hw dX8_as_80 hF
                · skip
                  have hF := hF.trans (if_pos c47)
                  refine lv_iconst (v := 1) hx hb dX8_as_55 (by decide) ?_
                  refine lv_goto (tgt := 60) hx hb dX8_as_56 (by decide) ?_
                  refine lv_istore (lv' := [(4, .int 1), (3, .int r10), (0, .ref (Z.1 30 0)), (1, .int a1), (2, .int a2)]) hx hb dX8_as_60 hl (by decide) rfl (fun ls hl => ?_)
                  refine lv_iload hx hb dX8_as_62 (lv_at hl 0 rfl) ?_
                  refine lv_if_eq (tgt := 75) hx hb dX8_as_64 (by decide) (fun c52 => ?_) (fun c52 => ?_)
                  · exact absurd c52 (by decide)
                  refine lv_aload_n hx hb dX8_as_67 rfl (lv_at hl 2 rfl) ?_
                  refine lv_iload_n hx hb dX8_as_68 rfl (lv_at hl 3 rfl) ?_
                  have hs53 : g_X8_well v a1 ≠ none := fun q => hs (hF.trans (kb2_n q _))
                  refine km_cI (As := [.int a1]) (rest := []) (n := 1) (q := (RX8, TX8, 23)) (ci := 8) (t := 30) (i := 0) ⟨hx, hb, hml, hown, hts⟩ (d_X8_well l E Z v a1 hs53) gX8_as_X8_well rfl hV_X8_well ⟨Nat.le_of_ble_eq_true rfl, Nat.le_of_ble_eq_true rfl⟩ hK hw (by decide) (by decide) rfl rfl rfl hl.1 rfl (Nat.le_of_ble_eq_true rfl) dX8_as_69 rfl rfl (fun r54 v55 H locs hp hw => ?_)
                  have hF := hF.trans (kb2_some hp _)
                  refine lv_goto (tgt := 80) hx hb dX8_as_72 (by decide) ?_
                  exact hret _ _ _ _ _ _ hw dX8_as_80 hF
    · skip
      have hF := hF.trans (if_pos c8)
      refine lv_ldc (v := (-1000001)) hx hb hown (hts (.constant RX8 64 (-1000001)) ow_X8_as_64) dX8_as_17 ?_
      exact hret _ _ _ _ _ _ hw dX8_as_19 hF
