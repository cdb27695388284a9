/-! the law's isStep -/
section
set_option maxRecDepth 100000
theorem nI_neg {i : Nat} {c : Int32} (h : i < 2 ^ 31) (hc : c < 0) : ¬ nI i = c := fun e => nI_pos h (by rw [e]; exact hc)
section ZC
variable {h : List zC} {z : Nat × (Nat × (Nat → Int32))} {a : Nat → Int32} {Q : Option Value → zX → Prop} {n l : Nat} {H S : Nat → Nat → Int32} {sv f : Nat → Int32} {x y x4 x5 : Int32} {v6 v7 v8 : Value}
/-- the law goes on from a state that is well -/
def zGo2 (h : List zC) (z : Nat × (Nat × (Nat → Int32))) (sv : Nat → Int32) (S : Nat → Nat → Int32) (l : Nat) (f : Nat → Int32) (Q : Option Value → zX → Prop) : Prop :=
  ∀ (h' : List zC) (a' : Nat → Int32) (n' : Nat) (H' : Nat → Nat → Int32), h'.length = h.length → zG a' → asc a' → 0 < gN a' 2 → zCl h' a' n' H' sv S l f → Q (some (.int 1)) (h', z)
theorem s_build (hg : zG a) (ha : asc a) (hK : zCl h a n H sv S l f) (h12 : gN a 2 < 12) (hQ : zGo2 h z sv S l f Q) : Ev 68 49 [.ref 0, .int x, .int y, .int (nI (gN a 2)), .int x4, .int x5, v6, v7, v8] [] (h, z) Q := by
  have b3 := hg.2.2.2.1.2
  have o0 := hK.o
  obtain ⟨r, hr, cu1⟩ := c_up (v := y) (N := 6) (n := 6) rfl (by decide) (by decide)
  obtain ⟨w, hw, cu2⟩ := c_up (v := y >>> (4 &&& 31)) (N := 17) (n := 17) rfl (by decide) (by decide)
  have e := chB_i hg hr (show w ≤ 16 by omega) h12
  rw [hg.2.2.1.1] at e
  have hb := zG_bld hg h12 hr (show w ≤ 16 by omega)
  obtain ⟨U, U2⟩ := bldA_at (a := a) (r := nI r) (w := nI w)
  have hab : asc (bldA a (nI r) (nI w)) := asc_of ha (U 3 (by omega) (by omega) (by omega) (by omega)) (fun k hk => U _ (by omega) (by omega) (by omega) (by omega))
  have hsm : sam a (bldA a (nI r) (nI w)) := sam_of hg (U 0 (by omega) (by omega) (by omega) (by omega)) (U 3 (by omega) (by omega) (by omega) (by omega)) (fun k hk => U _ (by omega) (by omega) (by omega) (by omega)) (fun k hk => U _ (by omega) (by omega) (by omega) (by omega))
  have mv := mv_up (s := gN a 2) hg hb h12 hab hsm (fun o => rz_bld h12)
  obtain ⟨g1, g2⟩ := fmA_ok (a0 := a) hb
  have g4 : 0 < gN (fmA a (bldA a (nI r) (nI w))) 2 := by
    rw [g2.g (by decide) (by decide)]
    unfold gN
    rw [U2, nI_clamp (by show gN a 2 + 1 < 2 ^ 31; omega)]
    exact Nat.succ_pos _
  have g3 := asc_m hb hab g2
  simp only [e68_49, e68_50, e68_51, e68_53, e68_56, e68_57, e68_58, e68_59, e68_61, e68_64, zpush, zopt_some, ↓reduceIte, List.getElem?_cons_succ, List.getElem?_cons_zero, beq_self_eq_true, true_and, and_true, Bool.true_and, Bool.and_true, Bool.false_and, Bool.and_false, nI_1, not_true_eq_false, not_false_eq_true, vp_narI, cu1, cu2, o0]
  refine c_D_server hg hK (fun h1 F1 C1 => ?_)
  rw [e] at C1
  have C1 : zCl h1 (fmA a (bldA a (nI r) (nI w))) (recN (nI (gN a 2)) n) (recH (nI (gN a 2)) n H a) sv S l f := C1
  have cA := fun (Q : Option Value → zX → Prop) => c_areTo (Q := Q) (z := z) (s := gN a 2) (W := 2) (w := 2) rfl g1 C1 h12 (by decide) mv
  have x1 : ¬ (1 : Int32) = 0 := by decide
  simp only [e68_67, e68_68, e68_71, e68_72, e68_73, e68_74, e68_77, e68_80, e68_81, e68_84, e68_85, zpush, zopt_some, ↓reduceIte, List.getElem?_cons_succ, List.getElem?_cons_zero, beq_self_eq_true, true_and, and_true, Bool.true_and, Bool.and_true, Bool.false_and, Bool.and_false, nI_1, not_true_eq_false, not_false_eq_true, vp_narI, eq_self, e, cA, x1, z1_and]
  exact hQ h1 _ _ _ F1.1 g1 g3 g4 C1
theorem s_store (hg : zG a) (ha : asc a) (h0 : 0 < gN a 2) (hK : zCl h a n H sv S l f) (hQ : zGo2 h z sv S l f Q) : Ev 68 93 [.ref 0, .int x, .int y, .int (nI (gN a 2)), .int x4, .int x5, v6, v7, v8] [] (h, z) Q := by
  have b3 := hg.2.2.2.1.2
  have o0 := hK.o
  have g3 := hg.2.2.2.1.1
  obtain ⟨o, ho, cu1⟩ := c_up (v := y >>> (4 &&& 31)) (N := 60) (n := 60) rfl (by decide) (by decide)
  have cC := fun (w : Int32) (Q : Option Value → zX → Prop) => c_D_count (w := w) (Q := Q) (z := z) hg hK
  have hz : zinb (nI o) 10000 = true := zinb_nI (by omega) (by decide)
  simp only [e68_93, e68_94, e68_95, e68_96, e68_98, e68_101, e68_103, e68_104, e68_105, e68_108, e68_110, e68_111, e68_113, zpush, zopt_some, ↓reduceIte, List.getElem?_cons_succ, List.getElem?_cons_zero, beq_self_eq_true, true_and, and_true, Bool.true_and, Bool.and_true, Bool.false_and, Bool.and_false, nI_1, not_true_eq_false, not_false_eq_true, vp_narI, cu1, o0, cC, qC_1]
  refine c_D_store hg hK (fun h1 F1 C1 => ?_)
  have o1 := C1.o
  by_cases h40 : gN a 3 < 40
  · by_cases hf : fnd a (nI o) = -6
    · have e : chK a (nI o) = (nI (plK (insA a (nI o)) (iposA a (nI o))).length, insA a (nI o)) := by unfold chK; rw [if_pos hz, if_pos h40, if_pos hf]
      have hb := zG_insA hg h40 (show o ≤ 9999 by omega)
      have hab := asc_ins hg ha h40 (show o ≤ 9999 by omega) (fnd_no hg hf)
      have hl := (plK_ok hb (iposA a (nI o))).2
      generalize hL : (plK (insA a (nI o)) (iposA a (nI o))).length = L at *
      rw [e] at C1
      have C1 : zCl h1 (insA a (nI o)) (recN (nI L) n) (recH (nI L) n H a) sv S l f := C1
      have cC1 := fun (w : Int32) (Q : Option Value → zX → Prop) => c_D_count (w := w) (Q := Q) (z := z) hb C1
      have x1 : ¬ nI L = -5 := nI_neg (by omega) (by decide)
      have x2 : ¬ nI L = -4 := nI_neg (by omega) (by decide)
      have x3 : ¬ nI L < 0 := nI_pos (by omega)
      have x4 : insA a (nI o) 3 = nI (gN a 3 + 1) := insA_3
      simp only [e68_116, e68_118, e68_120, e68_122, e68_125, e68_127, e68_129, e68_132, e68_134, e68_136, e68_139, e68_141, e68_144, e68_145, e68_146, e68_149, e68_151, e68_152, e68_153, e68_156, e68_157, e68_160, e68_161, zpush, zopt_some, ↓reduceIte, List.getElem?_cons_succ, List.getElem?_cons_zero, beq_self_eq_true, true_and, and_true, Bool.true_and, Bool.and_true, Bool.false_and, Bool.and_false, nI_1, not_true_eq_false, not_false_eq_true, vp_narI, eq_self, e, o1, cC1, qC_1, x1, x2, x3, x4, g3, nI_1, z1_and]
      exact hQ h1 _ _ _ F1.1 hb hab (by rw [gN_insA (by decide) (by decide)]; exact h0) C1
    · have e : chK a (nI o) = (-5, a) := by unfold chK; rw [if_pos hz, if_pos h40, if_neg hf]
      rw [e] at C1
      simp only [e68_116, e68_118, e68_120, e68_122, e68_125, e68_127, e68_129, e68_132, e68_134, e68_136, e68_139, e68_141, e68_144, e68_145, e68_146, e68_149, e68_151, e68_152, e68_153, e68_156, e68_157, e68_160, e68_161, zpush, zopt_some, ↓reduceIte, List.getElem?_cons_succ, List.getElem?_cons_zero, beq_self_eq_true, true_and, and_true, Bool.true_and, Bool.and_true, Bool.false_and, Bool.and_false, nI_1, not_true_eq_false, not_false_eq_true, vp_narI, eq_self, e, z1_and]
      exact hQ h1 _ _ _ F1.1 hg ha h0 C1
  · have e : chK a (nI o) = (-4, a) := by unfold chK; rw [if_pos hz, if_neg h40]
    rw [e] at C1
    have x1 : ¬ (-4 : Int32) = -5 := by decide
    have x2 : nI (gN a 3) = 40 := by rw [show gN a 3 = 40 by omega]; rfl
    simp only [e68_116, e68_118, e68_120, e68_122, e68_125, e68_127, e68_129, e68_132, e68_134, e68_136, e68_139, e68_141, e68_144, e68_145, e68_146, e68_149, e68_151, e68_152, e68_153, e68_156, e68_157, e68_160, e68_161, zpush, zopt_some, ↓reduceIte, List.getElem?_cons_succ, List.getElem?_cons_zero, beq_self_eq_true, true_and, and_true, Bool.true_and, Bool.and_true, Bool.false_and, Bool.and_false, nI_1, not_true_eq_false, not_false_eq_true, vp_narI, eq_self, e, g3, x1, x2, z1_and]
    exact hQ h1 _ _ _ F1.1 hg ha h0 C1
theorem s_weigh {s : Nat} (hg : zG a) (ha : asc a) (h0 : 0 < gN a 2) (hK : zCl h a n H sv S l f) (hs : s < gN a 2) (hQ : zGo2 h z sv S l f Q) : Ev 68 169 [.ref 0, .int x, .int y, .int (nI (gN a 2)), .int (nI s), .int x5, v6, v7, v8] [] (h, z) Q := by
  obtain ⟨w, hw, cu1⟩ := c_up (v := y >>> (4 &&& 31)) (N := 17) (n := 17) rfl (by decide) (by decide)
  simp only [e68_169, e68_170, e68_172, e68_173, e68_174, e68_175, e68_177, e68_180, zpush, zopt_some, ↓reduceIte, List.getElem?_cons_succ, List.getElem?_cons_zero, beq_self_eq_true, true_and, and_true, Bool.true_and, Bool.and_true, Bool.false_and, Bool.and_false, nI_1, not_true_eq_false, not_false_eq_true, vp_narI, cu1]
  refine c_isWeighed hg ha hK hs (by omega) (fun h' a' n' H' hl g1 g2 g3 C1 => ?_)
  simp only [e68_183, zpush, zopt_some, ↓reduceIte, List.getElem?_cons_succ, List.getElem?_cons_zero, beq_self_eq_true, true_and, and_true, Bool.true_and, Bool.and_true, Bool.false_and, Bool.and_false, nI_1, not_true_eq_false, not_false_eq_true, vp_narI, z1_and]
  exact hQ h' a' n' H' hl g1 g2 (by rw [g3]; exact h0) C1
theorem s_down {s : Nat} (hg : zG a) (ha : asc a) (h0 : 0 < gN a 2) (hK : zCl h a n H sv S l f) (hs : s < gN a 2) (hQ : zGo2 h z sv S l f Q) : Ev 68 191 [.ref 0, .int x, .int y, .int (nI (gN a 2)), .int (nI s), .int x5, v6, v7, v8] [] (h, z) Q := by
  simp only [e68_191, e68_192, e68_194, zpush, zopt_some, ↓reduceIte, List.getElem?_cons_succ, List.getElem?_cons_zero, beq_self_eq_true, true_and, and_true, Bool.true_and, Bool.and_true, Bool.false_and, Bool.and_false, nI_1, not_true_eq_false, not_false_eq_true, vp_narI]
  refine c_isDown hg ha hK hs (fun h' a' n' H' hl g1 g2 g3 C1 => ?_)
  simp only [e68_197, zpush, zopt_some, ↓reduceIte, List.getElem?_cons_succ, List.getElem?_cons_zero, beq_self_eq_true, true_and, and_true, Bool.true_and, Bool.and_true, Bool.false_and, Bool.and_false, nI_1, not_true_eq_false, not_false_eq_true, vp_narI, z1_and]
  exact hQ h' a' n' H' hl g1 g2 (by rw [g3]; exact h0) C1
theorem s_set (hg : zG a) (ha : asc a) (h0 : 0 < gN a 2) (hK : zCl h a n H sv S l f) (hQ : zGo2 h z sv S l f Q) : Ev 68 205 [.ref 0, .int x, .int y, .int (nI (gN a 2)), .int x4, .int x5, v6, v7, v8] [] (h, z) Q := by
  have b3 := hg.2.2.2.1.2
  have o0 := hK.o
  obtain ⟨m, hm, cu1⟩ := c_up (v := y >>> (4 &&& 31)) (N := 3) (n := 3) rfl (by decide) (by decide)
  have e1 : (1 : Int32) + nI m = nI (1 + m) := nI_add 1 m
  have e := chS_0 (a := a) (c := 1 + m) (by omega) (by omega)
  have hb := zG_cop hg (c := 1 + m) (by omega) (by omega)
  have hab : asc (upd a 0 (nI (1 + m))) := asc_of ha (upd_n (by omega)) (fun k hk => upd_n (by omega))
  obtain ⟨g1, g2, g3⟩ := fm_k (a := a) hb hab (upd_n (by omega))
  simp only [e68_205, e68_206, e68_207, e68_208, e68_209, e68_210, e68_211, e68_212, e68_215, e68_216, zpush, zopt_some, ↓reduceIte, List.getElem?_cons_succ, List.getElem?_cons_zero, beq_self_eq_true, true_and, and_true, Bool.true_and, Bool.and_true, Bool.false_and, Bool.and_false, nI_1, not_true_eq_false, not_false_eq_true, vp_narI, cu1, o0, e1]
  refine c_D_set hg hK (fun h1 F1 C1 => ?_)
  rw [e] at C1
  have C1 : zCl h1 (fmA a (upd a 0 (nI (1 + m)))) (recN (fmA a (upd a 0 (nI (1 + m))) 4) n) (recH (fmA a (upd a 0 (nI (1 + m))) 4) n H a) sv S l f := C1
  have o1 := C1.o
  have cC := fun (w : Int32) (Q : Option Value → zX → Prop) => c_D_count (w := w) (Q := Q) (z := z) g1 C1
  simp only [e68_219, e68_220, e68_221, e68_224, e68_227, e68_228, e68_231, e68_232, zpush, zopt_some, ↓reduceIte, List.getElem?_cons_succ, List.getElem?_cons_zero, beq_self_eq_true, true_and, and_true, Bool.true_and, Bool.and_true, Bool.false_and, Bool.and_false, nI_1, not_true_eq_false, not_false_eq_true, vp_narI, eq_self, e, o1, cC, qC_4, z1_and]
  exact hQ h1 _ _ _ F1.1 g1 g2 (by rw [g3]; exact h0) C1
theorem s_rack {s : Nat} (hg : zG a) (ha : asc a) (h0 : 0 < gN a 2) (hK : zCl h a n H sv S l f) (hs : s < gN a 2) (hQ : zGo2 h z sv S l f Q) : Ev 68 342 [.ref 0, .int x, .int y, .int (nI (gN a 2)), .int (nI s), .int x5, v6, v7, v8] [] (h, z) Q := by
  have b2 := hg.2.2.1.2
  have b3 := hg.2.2.2.1.2
  have o0 := hK.o
  obtain ⟨r, hr, cu1⟩ := c_up (v := y >>> (4 &&& 31)) (N := 6) (n := 6) rfl (by decide) (by decide)
  obtain ⟨c, hc, cu2⟩ := c_up (v := y >>> (7 &&& 31)) (N := 1000) (n := 1000) rfl (by decide) (by decide)
  have e := chR_i hg hs hr
  have hb := zG_rack hg (s := s) (r := r) (by omega) hr
  have hab : asc (upd a (5 + s) (nI r)) := asc_of ha (upd_n (by omega)) (fun k hk => upd_n (by omega))
  obtain ⟨g1, g2, g3⟩ := fm_k (a := a) hb hab (upd_n (by omega))
  generalize hA : fmA a (upd a (5 + s) (nI r)) = A at *
  have b3' := g1.2.2.2.1.2
  have e2 := chS_1 (a := A) hc
  have hb2 := zG_salt g1 (c := c) (by omega)
  have hab2 : asc (upd A 1 (nI c)) := asc_of g2 (upd_n (by omega)) (fun k hk => upd_n (by omega))
  obtain ⟨p1, p2, p3⟩ := fm_k (a := A) hb2 hab2 (upd_n (by omega))
  simp only [e68_342, e68_343, e68_345, e68_346, e68_347, e68_348, e68_350, e68_353, zpush, zopt_some, ↓reduceIte, List.getElem?_cons_succ, List.getElem?_cons_zero, beq_self_eq_true, true_and, and_true, Bool.true_and, Bool.and_true, Bool.false_and, Bool.and_false, nI_1, not_true_eq_false, not_false_eq_true, vp_narI, cu1, o0]
  refine c_D_toRack hg hK (fun h1 F1 C1 => ?_)
  rw [e] at C1
  have C1 : zCl h1 A (recN (A 4) n) (recH (A 4) n H a) sv S l f := C1
  have o1 := C1.o
  have cC := fun (w : Int32) (Q : Option Value → zX → Prop) => c_D_count (w := w) (Q := Q) (z := z) g1 C1
  simp only [e68_356, e68_357, e68_358, e68_361, e68_364, e68_365, e68_366, e68_367, e68_369, e68_370, e68_373, e68_376, zpush, zopt_some, ↓reduceIte, List.getElem?_cons_succ, List.getElem?_cons_zero, beq_self_eq_true, true_and, and_true, Bool.true_and, Bool.and_true, Bool.false_and, Bool.and_false, nI_1, not_true_eq_false, not_false_eq_true, vp_narI, eq_self, e, o1, cC, qC_4, cu2]
  refine c_D_set g1 C1 (fun h2 F2 C2 => ?_)
  rw [e2] at C2
  have C2 : zCl h2 (fmA A (upd A 1 (nI c))) (recN (fmA A (upd A 1 (nI c)) 4) (recN (A 4) n)) (recH (fmA A (upd A 1 (nI c)) 4) (recN (A 4) n) (recH (A 4) n H a) A) sv S l f := C2
  have o2 := C2.o
  have cC2 := fun (w : Int32) (Q : Option Value → zX → Prop) => c_D_count (w := w) (Q := Q) (z := z) p1 C2
  simp only [e68_379, e68_380, e68_381, e68_384, e68_387, e68_388, e68_391, e68_392, zpush, zopt_some, ↓reduceIte, List.getElem?_cons_succ, List.getElem?_cons_zero, beq_self_eq_true, true_and, and_true, Bool.true_and, Bool.and_true, Bool.false_and, Bool.and_false, nI_1, not_true_eq_false, not_false_eq_true, vp_narI, eq_self, e2, o2, cC2, qC_4, z1_and]
  exact hQ h2 _ _ _ (F2.1.trans F1.1) p1 p2 (by rw [p3, g3]; exact h0) C2
theorem s_pin {s : Nat} (hg : zG a) (ha : asc a) (h0 : 0 < gN a 2) (h3 : 0 < gN a 3) (hK : zCl h a n H sv S l f) (hs : s < gN a 2) (hQ : zGo2 h z sv S l f Q) : Ev 68 248 [.ref 0, .int x, .int y, .int (nI (gN a 2)), .int (nI s), .int x5, v6, v7, v8] [] (h, z) Q := by
  have b2 := hg.2.2.1.2
  have b3 := hg.2.2.2.1.2
  have o0 := hK.o
  obtain ⟨⟨P, T, K⟩, -⟩ := id hK
  obtain ⟨q, hq, cu1⟩ := c_up (v := y >>> (4 &&& 31)) (N := a 3) (n := gN a 3) hg.2.2.2.1.1 h3 (by omega)
  have cC := fun (w : Int32) (Q : Option Value → zX → Prop) => c_D_count (w := w) (Q := Q) (z := z) hg hK
  have cB := fun (m w : Int32) (Q : Option Value → zX → Prop) => c_D_object (m := m) (w := w) (Q := Q) (z := z) hg K
  have q0 := qB_0 hg hq
  have e := chP_i hg ha hq hs
  have hb := zG_pin hg (p := q) (v := nI s) (by omega) (Or.inr ⟨s, hs, rfl⟩)
  have hab : asc (upd a (81 + q) (nI s)) := asc_of ha (upd_n (by omega)) (fun k hk => upd_n (by omega))
  have mx : mxS a (upd a (81 + q) (nI s)) (gN (upd a (81 + q) (nI s)) 3) ≤ 3 := by
    have := mx_pin hg hb (q := q) (fun k hk hne => plK_pin hg (by rw [gN_u (by omega)] at hk; omega) hne) _ (Nat.le_refl _)
    split at this <;> omega
  have f4 := fmA_4 hg hb
  obtain ⟨g1, g2, g3⟩ := fm_k (a := a) hb hab (upd_n (by omega))
  have em := (fmA_ok (a0 := a) hb).2
  have ob : a (41 + q) = fmA a (upd a (81 + q) (nI s)) (41 + q) := by rw [em _ (by omega) (by omega), upd_n (by omega)]
  have pk : plK (fmA a (upd a (81 + q) (nI s))) q = plc (upd a (81 + q) (nI s)) (gN (upd a (81 + q) (nI s)) (41 + q)) (nI s) := by
    rw [em.c_plK hb (by omega)]
    unfold plK
    rw [upd_s]
  have tpe : tp (fmA a (upd a (81 + q) (nI s))) s = tp (upd a (81 + q) (nI s)) s := by
    unfold tp
    rw [em _ (by omega) (by omega), em _ (by omega) (by omega)]
  have q3' : q < gN (fmA a (upd a (81 + q) (nI s))) 3 := by rw [em.g (by decide) (by decide), gN_u (by omega)]; exact hq
  have s2 : s < gN (upd a (81 + q) (nI s)) 2 := by rw [gN_u (by omega)]; exact hs
  generalize upd a (81 + q) (nI s) = b at *
  generalize mxS a b (gN b 3) = m at *
  simp only [e68_248, e68_249, e68_250, e68_251, e68_252, e68_253, e68_254, e68_257, e68_260, e68_261, e68_264, e68_266, e68_267, e68_269, e68_271, zpush, zopt_some, ↓reduceIte, List.getElem?_cons_succ, List.getElem?_cons_zero, beq_self_eq_true, true_and, and_true, Bool.true_and, Bool.and_true, Bool.false_and, Bool.and_false, nI_1, not_true_eq_false, not_false_eq_true, vp_narI, cu1, o0, cC, qC_1, cB, q0]
  refine c_D_pin hg hK (fun h1 F1 C1 => ?_)
  rw [e] at C1
  have C1 : zCl h1 (fmA a b) (recN (fmA a b 4) n) (recH (fmA a b 4) n H a) sv S l f := C1
  have o1 := C1.o
  obtain ⟨⟨P1, T1, K1⟩, -⟩ := id C1
  have cC1 := fun (w : Int32) (Q : Option Value → zX → Prop) => c_D_count (w := w) (Q := Q) (z := z) g1 C1
  have cO1 := fun (s w : Int32) (Q : Option Value → zX → Prop) => c_D_ofServer (s := s) (w := w) (Q := Q) (z := z) g1 K1
  have u2 := qO_2 g1 (s := s) (by rw [g3]; exact hs)
  have u1 := qO_1 g1 (s := s) (by rw [g3]; exact hs)
  have x1 : ¬ (1 : Int32) = 0 := by decide
  have x3 : ¬ (3 : Int32) < nI m := Int32.not_lt.mpr (nI_le (b := 3) mx (by decide))
  have fin := fun (h' : List zC) (hl : h'.length = h.length) (C : zCl h' (fmA a b) (recN (fmA a b 4) n) (recH (fmA a b 4) n H a) sv S l f) => hQ h' (fmA a b) (recN (fmA a b 4) n) (recH (fmA a b 4) n H a) hl g1 g2 (by rw [g3]; exact h0) C
  by_cases ht : tp (fmA a b) s = true
  · obtain ⟨t1, t2⟩ := tp_i.mp ht
    have t3 : ¬ fmA a b (17 + s) ≤ 0 := Int32.not_le.mpr t2
    have pp := plc_0 hb (o := gN b (41 + q)) (j := s) (pt_mk s2 (by rw [← tpe]; exact ht))
    simp only [e68_274, e68_276, e68_277, e68_279, e68_280, e68_283, e68_286, e68_287, e68_289, e68_290, e68_293, e68_296, e68_297, e68_300, e68_301, e68_303, e68_305, e68_306, e68_307, e68_310, e68_313, e68_315, e68_316, e68_319, e68_321, e68_324, e68_325, e68_327, e68_328, zpush, zopt_some, ↓reduceIte, List.getElem?_cons_succ, List.getElem?_cons_zero, beq_self_eq_true, true_and, and_true, Bool.true_and, Bool.and_true, Bool.false_and, Bool.and_false, nI_1, not_true_eq_false, not_false_eq_true, vp_narI, eq_self, e, f4, o1, cC1, qC_4, cO1, u1, u2, t1, t3, x1, x3]
    rw [ob]
    refine c_D_place g1 K1 (fun h2 F2 K2 => ?_)
    have qp := qP_i g1 g2 (k := q) (c := 0) q3' (by decide)
    rw [pk, plG_lt (by rw [← pk]; have := (plK_ok g1 q).2; omega) pp.1, pp.2] at qp
    have qp : qPl (fmA a b) (fmA a b (41 + q)) 0 = nI s := qp
    simp only [e68_331, e68_333, e68_336, e68_337, e68_340, e68_341, zpush, zopt_some, ↓reduceIte, List.getElem?_cons_succ, List.getElem?_cons_zero, beq_self_eq_true, true_and, and_true, Bool.true_and, Bool.and_true, Bool.false_and, Bool.and_false, nI_1, not_true_eq_false, not_false_eq_true, vp_narI, eq_self, qp, z1_and]
    exact fin h2 (F2.1.trans F1.1) (C1.ko F2 K2)
  · by_cases t1 : fmA a b (29 + s) = 0
    · have t3 : fmA a b (17 + s) ≤ 0 := Int32.not_lt.mp (fun q => ht (tp_i.mpr ⟨t1, q⟩))
      simp only [e68_274, e68_276, e68_277, e68_279, e68_280, e68_283, e68_286, e68_287, e68_289, e68_290, e68_293, e68_296, e68_297, e68_300, e68_301, e68_303, e68_305, e68_306, e68_307, e68_310, e68_313, e68_315, e68_316, e68_319, e68_321, e68_324, e68_325, e68_327, e68_328, e68_331, e68_333, e68_336, e68_337, e68_340, e68_341, zpush, zopt_some, ↓reduceIte, List.getElem?_cons_succ, List.getElem?_cons_zero, beq_self_eq_true, true_and, and_true, Bool.true_and, Bool.and_true, Bool.false_and, Bool.and_false, nI_1, not_true_eq_false, not_false_eq_true, vp_narI, eq_self, e, f4, o1, cC1, qC_4, cO1, u1, u2, t1, t3, x1, x3, z1_and]
      exact fin h1 F1.1 C1
    · simp only [e68_274, e68_276, e68_277, e68_279, e68_280, e68_283, e68_286, e68_287, e68_289, e68_290, e68_293, e68_296, e68_297, e68_300, e68_301, e68_303, e68_305, e68_306, e68_307, e68_310, e68_313, e68_315, e68_316, e68_319, e68_321, e68_324, e68_325, e68_327, e68_328, e68_331, e68_333, e68_336, e68_337, e68_340, e68_341, zpush, zopt_some, ↓reduceIte, List.getElem?_cons_succ, List.getElem?_cons_zero, beq_self_eq_true, true_and, and_true, Bool.true_and, Bool.and_true, Bool.false_and, Bool.and_false, nI_1, not_true_eq_false, not_false_eq_true, vp_narI, eq_self, e, f4, o1, cC1, qC_4, cO1, u1, u2, t1, x1, x3, z1_and]
      exact fin h1 F1.1 C1
theorem c_isStep (hg : zG a) (ha : asc a) (hK : zCl h a n H sv S l f) (hQ : zGo2 h z sv S l f Q) : Ev 68 0 [.ref 0, .int x, zU, zU, zU, zU, zU, zU, zU] [] (h, z) Q := by
  have b2 := hg.2.2.1.2
  have g2 := hg.2.2.1.1
  have o0 := hK.o
  have cC := fun (w : Int32) (Q : Option Value → zX → Prop) => c_D_count (w := w) (Q := Q) (z := z) hg hK
  obtain ⟨o, ho, cu2⟩ := c_up (v := x) (N := 16) (n := 16) rfl (by decide) (by decide)
  by_cases h0 : gN a 2 = 0
  · have e0 : a 2 = 0 := by rw [g2, h0]; rfl
    simp only [e68_0, e68_1, e68_2, e68_3, e68_4, e68_5, e68_6, e68_9, e68_10, e68_11, e68_14, e68_15, e68_18, e68_19, e68_20, e68_23, e68_25, e68_26, e68_28, e68_31, e68_33, e68_34, e68_37, e68_39, e68_40, e68_43, e68_44, e68_46, zpush, zopt_some, ↓reduceIte, List.getElem?_cons_succ, List.getElem?_cons_zero, beq_self_eq_true, true_and, and_true, Bool.true_and, Bool.and_true, Bool.false_and, Bool.and_false, nI_1, not_true_eq_false, not_false_eq_true, vp_narI, o0, cC, qC_0, e0, cu2]
    have e1 : (0 : Int32) = nI (gN a 2) := by rw [h0]; rfl
    have := s_build (x := x) (y := x >>> (4 &&& 31)) (x4 := 0) (x5 := nI o) (v6 := zU) (v7 := zU) (v8 := zU) hg ha hK (by omega) hQ
    rw [← e1] at this
    exact this
  · obtain ⟨s, hs, cu1⟩ := c_up (v := x >>> (4 &&& 31)) (N := nI (gN a 2)) (n := gN a 2) rfl (by omega) (by omega)
    have e0 : ¬ nI (gN a 2) = 0 := nI_ne0 (by omega) (by omega)
    have hp : 0 < gN a 2 := by omega
    have rest : Ev 68 86 [.ref 0, .int x, .int (x >>> (4 &&& 31)), .int (nI (gN a 2)), .int (nI s), .int (nI o), zU, zU, zU] [] (h, z) Q := by
      by_cases c8 : o < 8
      · have y1 : ¬ (8 : Int32) ≤ nI o := nI_ge (b := 8) c8 (by decide)
        simp only [e68_86, e68_88, e68_90, zpush, zopt_some, ↓reduceIte, List.getElem?_cons_succ, List.getElem?_cons_zero, beq_self_eq_true, true_and, and_true, Bool.true_and, Bool.and_true, Bool.false_and, Bool.and_false, nI_1, not_true_eq_false, not_false_eq_true, vp_narI, y1]
        exact s_store hg ha hp hK hQ
      · have y1 : (8 : Int32) ≤ nI o := nI_le (a := 8) (by omega) (by omega)
        by_cases c11 : o < 11
        · have y2 : ¬ (11 : Int32) ≤ nI o := nI_ge (b := 11) c11 (by decide)
          simp only [e68_86, e68_88, e68_90, e68_162, e68_164, e68_166, zpush, zopt_some, ↓reduceIte, List.getElem?_cons_succ, List.getElem?_cons_zero, beq_self_eq_true, true_and, and_true, Bool.true_and, Bool.and_true, Bool.false_and, Bool.and_false, nI_1, not_true_eq_false, not_false_eq_true, vp_narI, y1, y2]
          exact s_weigh hg ha hp hK hs hQ
        · have y2 : (11 : Int32) ≤ nI o := nI_le (a := 11) (by omega) (by omega)
          by_cases c13 : o < 13
          · have y3 : ¬ (13 : Int32) ≤ nI o := nI_ge (b := 13) c13 (by decide)
            simp only [e68_86, e68_88, e68_90, e68_162, e68_164, e68_166, e68_184, e68_186, e68_188, zpush, zopt_some, ↓reduceIte, List.getElem?_cons_succ, List.getElem?_cons_zero, beq_self_eq_true, true_and, and_true, Bool.true_and, Bool.and_true, Bool.false_and, Bool.and_false, nI_1, not_true_eq_false, not_false_eq_true, vp_narI, y1, y2, y3]
            exact s_down hg ha hp hK hs hQ
          · have y3 : (13 : Int32) ≤ nI o := nI_le (a := 13) (by omega) (by omega)
            by_cases d13 : o = 13
            · have y4 : nI o = 13 := by rw [d13]; rfl
              have := s_set (x := x) (y := x >>> (4 &&& 31)) (x4 := nI s) (x5 := nI o) (v6 := zU) (v7 := zU) (v8 := zU) hg ha hp hK hQ
              rw [y4] at this y1 y2 y3 ⊢
              simp only [e68_86, e68_88, e68_90, e68_162, e68_164, e68_166, e68_184, e68_186, e68_188, e68_198, e68_200, e68_202, zpush, zopt_some, ↓reduceIte, List.getElem?_cons_succ, List.getElem?_cons_zero, beq_self_eq_true, true_and, and_true, Bool.true_and, Bool.and_true, Bool.false_and, Bool.and_false, nI_1, not_true_eq_false, not_false_eq_true, vp_narI, eq_self, y1, y2, y3]
              exact this
            · have y4 : ¬ nI o = 13 := fun q => d13 ((nI_eq (b := 13) (by omega) (by decide)).mp q)
              have rk := s_rack (x := x) (y := x >>> (4 &&& 31)) (x5 := nI o) (v6 := zU) (v7 := zU) (v8 := zU) hg ha hp hK hs hQ
              by_cases d14 : o = 14
              · have y5 : nI o = 14 := by rw [d14]; rfl
                by_cases h3 : 0 < gN a 3
                · have y6 : ¬ a 3 ≤ 0 := by rw [hg.2.2.2.1.1]; exact nI_nle h3 (by have := hg.2.2.2.1.2; omega)
                  have := s_pin (x := x) (y := x >>> (4 &&& 31)) (x5 := nI o) (v6 := zU) (v7 := zU) (v8 := zU) hg ha hp h3 hK hs hQ
                  rw [y5] at this y1 y2 y3 y4 ⊢
                  simp only [e68_86, e68_88, e68_90, e68_162, e68_164, e68_166, e68_184, e68_186, e68_188, e68_198, e68_200, e68_202, e68_233, e68_235, e68_237, e68_240, e68_241, e68_242, e68_245, zpush, zopt_some, ↓reduceIte, List.getElem?_cons_succ, List.getElem?_cons_zero, beq_self_eq_true, true_and, and_true, Bool.true_and, Bool.and_true, Bool.false_and, Bool.and_false, nI_1, not_true_eq_false, not_false_eq_true, vp_narI, eq_self, y1, y2, y3, y4, y6, o0, cC, qC_1]
                  exact this
                · have y6 : a 3 ≤ 0 := by rw [hg.2.2.2.1.1, show gN a 3 = 0 by omega]; exact Int32.le_refl _
                  rw [y5] at rk y1 y2 y3 y4 ⊢
                  simp only [e68_86, e68_88, e68_90, e68_162, e68_164, e68_166, e68_184, e68_186, e68_188, e68_198, e68_200, e68_202, e68_233, e68_235, e68_237, e68_240, e68_241, e68_242, e68_245, zpush, zopt_some, ↓reduceIte, List.getElem?_cons_succ, List.getElem?_cons_zero, beq_self_eq_true, true_and, and_true, Bool.true_and, Bool.and_true, Bool.false_and, Bool.and_false, nI_1, not_true_eq_false, not_false_eq_true, vp_narI, eq_self, y1, y2, y3, y4, y6, o0, cC, qC_1]
                  exact rk
              · have y5 : ¬ nI o = 14 := fun q => d14 ((nI_eq (b := 14) (by omega) (by decide)).mp q)
                simp only [e68_86, e68_88, e68_90, e68_162, e68_164, e68_166, e68_184, e68_186, e68_188, e68_198, e68_200, e68_202, e68_233, e68_235, e68_237, e68_240, e68_241, e68_242, e68_245, zpush, zopt_some, ↓reduceIte, List.getElem?_cons_succ, List.getElem?_cons_zero, beq_self_eq_true, true_and, and_true, Bool.true_and, Bool.and_true, Bool.false_and, Bool.and_false, nI_1, not_true_eq_false, not_false_eq_true, vp_narI, y1, y2, y3, y4, y5]
                exact rk
    have hb := fun h12 => s_build (x := x) (y := x >>> (4 &&& 31)) (x4 := nI s) (x5 := nI o) (v6 := zU) (v7 := zU) (v8 := zU) hg ha hK h12 hQ
    by_cases c3 : o < 3
    · have y1 : ¬ (3 : Int32) ≤ nI o := nI_ge (b := 3) c3 (by decide)
      by_cases c9 : gN a 2 < 9
      · have y2 : ¬ (9 : Int32) ≤ nI (gN a 2) := nI_ge (b := 9) c9 (by decide)
        simp only [e68_0, e68_1, e68_2, e68_3, e68_4, e68_5, e68_6, e68_9, e68_10, e68_11, e68_14, e68_15, e68_18, e68_19, e68_20, e68_23, e68_25, e68_26, e68_28, e68_31, e68_33, e68_34, e68_37, e68_39, e68_40, e68_43, e68_44, e68_46, zpush, zopt_some, ↓reduceIte, List.getElem?_cons_succ, List.getElem?_cons_zero, beq_self_eq_true, true_and, and_true, Bool.true_and, Bool.and_true, Bool.false_and, Bool.and_false, nI_1, not_true_eq_false, not_false_eq_true, vp_narI, o0, cC, qC_0, g2, e0, cu1, cu2, y1, y2]
        exact hb (by omega)
      · have y2 : (9 : Int32) ≤ nI (gN a 2) := nI_le (a := 9) (by omega) (by omega)
        simp only [e68_0, e68_1, e68_2, e68_3, e68_4, e68_5, e68_6, e68_9, e68_10, e68_11, e68_14, e68_15, e68_18, e68_19, e68_20, e68_23, e68_25, e68_26, e68_28, e68_31, e68_33, e68_34, e68_37, e68_39, e68_40, e68_43, e68_44, e68_46, zpush, zopt_some, ↓reduceIte, List.getElem?_cons_succ, List.getElem?_cons_zero, beq_self_eq_true, true_and, and_true, Bool.true_and, Bool.and_true, Bool.false_and, Bool.and_false, nI_1, not_true_eq_false, not_false_eq_true, vp_narI, o0, cC, qC_0, g2, e0, cu1, cu2, y1, y2]
        exact rest
    · have y1 : (3 : Int32) ≤ nI o := nI_le (a := 3) (by omega) (by omega)
      simp only [e68_0, e68_1, e68_2, e68_3, e68_4, e68_5, e68_6, e68_9, e68_10, e68_11, e68_14, e68_15, e68_18, e68_19, e68_20, e68_23, e68_25, e68_26, e68_28, e68_31, e68_33, e68_34, e68_37, e68_39, e68_40, e68_43, e68_44, e68_46, zpush, zopt_some, ↓reduceIte, List.getElem?_cons_succ, List.getElem?_cons_zero, beq_self_eq_true, true_and, and_true, Bool.true_and, Bool.and_true, Bool.false_and, Bool.and_false, nI_1, not_true_eq_false, not_false_eq_true, vp_narI, o0, cC, qC_0, g2, e0, cu1, cu2, y1]
      exact rest
end ZC
end
