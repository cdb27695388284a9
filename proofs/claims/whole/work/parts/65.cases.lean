/-! one call of the law, case by case -/
section
set_option maxRecDepth 100000
section ZC
variable {h : List zC} {z : Nat × (Nat × (Nat → Int32))} {Q : Option Value → zX → Prop} {i : Nat}
theorem zG_cry {f : Nat → Int32} {l : Nat} : ∀ (k d p : Nat) (a : Nat → Int32), zG a → zG (cry f l k d p a).2
  | 0, _, _, a, hg => hg
  | k + 1, d, p, a, hg => by
    unfold cry
    split
    · split
      · exact zG_ordA hg
      · exact zG_cry k _ _ _ (zG_ordA hg)
    · exact hg
theorem zG_cryA {f : Nat → Int32} {l : Nat} {a : Nat → Int32} (hg : zG a) : zG (cryA f l a).2 := by
  unfold cryA
  split
  · exact zG_cry 60 0 0 a hg
  · exact hg
theorem s_set (hJ : zJ h) (hi : i + 2 < z.2.1) (hL : z.2.1 < 2 ^ 31) (hQ : ∀ h' : List zC, h'.length = h.length → zJ h' → Ev 151 842 [zS, .ref 0, .ref 108, .int (nI i)] [] (h', z) Q) : Ev 151 144 [zS, .ref 0, .ref 108, .int (nI i)] [] (h, z) Q := by
  obtain ⟨M, n, H, sv, S, l, hM, hg, hC, hH, hS, hl⟩ := hJ
  have D0 := hC.o
  have e1 : zinb (nI (i + 1)) z.2.1 = true := zinb_nI (by omega) hL
  have e2 : (nI (i + 1)).toNatClampNeg = i + 1 := nI_clamp (by omega)
  have e3 : zinb (nI (i + 2)) z.2.1 = true := zinb_nI (by omega) hL
  have e4 : (nI (i + 2)).toNatClampNeg = i + 2 := nI_clamp (by omega)
  have o0 := hM.q.1
  simp only [e151_144, e151_145, e151_146, e151_147, e151_148, e151_149, e151_150, e151_151, e151_152, e151_153, e151_154, e151_155, zpush, zopt_some, ↓reduceIte, List.getElem?_cons_succ, List.getElem?_cons_zero, beq_self_eq_true, true_and, and_true, Bool.true_and, Bool.and_true, Bool.false_and, Bool.and_false, nI_1, not_true_eq_false, not_false_eq_true, vp_narI, nI_2, e1, e2, e3, e4, D0]
  refine c_D_set hg hC (fun h1 F1 C1 => ?_)
  have M1 : zMM h1 M := hM.fr (fun j a b => F1.2 j (by omega))
  have o1 := M1.q.1
  simp only [e151_158, e151_159, e151_160, e151_161, e151_162, e151_163, e151_164, e151_165, e151_166, e151_167, e151_168, e151_169, zpush, zopt_some, ↓reduceIte, List.getElem?_cons_succ, List.getElem?_cons_zero, beq_self_eq_true, true_and, and_true, Bool.true_and, Bool.and_true, Bool.false_and, Bool.and_false, nI_1, not_true_eq_false, not_false_eq_true, vp_narI, nI_2, e1, e2, e3, e4, o1]
  refine c_M_set M1 hg hH (fun h2 M2 V2 E2 H2 => ?_)
  simp only [e151_172, e151_175, e151_176, zpush, zopt_some, ↓reduceIte, List.getElem?_cons_succ, List.getElem?_cons_zero, beq_self_eq_true, true_and, and_true, Bool.true_and, Bool.and_true, Bool.false_and, Bool.and_false, nI_1, not_true_eq_false, not_false_eq_true, vp_narI, eq_self]
  exact hQ h2 (V2.1.1.trans F1.1) (zJ_g V2 C1 (zG_chS hg) (fun k _ => by rw [E2]) (V2.k 14 rfl) H2 (hS.k (V2.k 4 rfl) (V2.k 5 rfl)) ((congrFun (V2.k 15 rfl) 0).trans hl))
theorem s_server (hJ : zJ h) (hi : i + 2 < z.2.1) (hL : z.2.1 < 2 ^ 31) (hQ : ∀ h' : List zC, h'.length = h.length → zJ h' → Ev 151 842 [zS, .ref 0, .ref 108, .int (nI i)] [] (h', z) Q) : Ev 151 177 [zS, .ref 0, .ref 108, .int (nI i)] [] (h, z) Q := by
  obtain ⟨M, n, H, sv, S, l, hM, hg, hC, hH, hS, hl⟩ := hJ
  have D0 := hC.o
  have e1 : zinb (nI (i + 1)) z.2.1 = true := zinb_nI (by omega) hL
  have e2 : (nI (i + 1)).toNatClampNeg = i + 1 := nI_clamp (by omega)
  have e3 : zinb (nI (i + 2)) z.2.1 = true := zinb_nI (by omega) hL
  have e4 : (nI (i + 2)).toNatClampNeg = i + 2 := nI_clamp (by omega)
  have o0 := hM.q.1
  simp only [e151_177, e151_178, e151_179, e151_180, e151_181, e151_182, e151_183, e151_184, e151_185, e151_186, e151_187, e151_188, zpush, zopt_some, ↓reduceIte, List.getElem?_cons_succ, List.getElem?_cons_zero, beq_self_eq_true, true_and, and_true, Bool.true_and, Bool.and_true, Bool.false_and, Bool.and_false, nI_1, not_true_eq_false, not_false_eq_true, vp_narI, nI_2, e1, e2, e3, e4, D0]
  refine c_D_server hg hC (fun h1 F1 C1 => ?_)
  have M1 : zMM h1 M := hM.fr (fun j a b => F1.2 j (by omega))
  have o1 := M1.q.1
  simp only [e151_191, e151_192, e151_193, e151_194, e151_195, e151_196, e151_197, e151_198, e151_199, e151_200, e151_201, e151_202, zpush, zopt_some, ↓reduceIte, List.getElem?_cons_succ, List.getElem?_cons_zero, beq_self_eq_true, true_and, and_true, Bool.true_and, Bool.and_true, Bool.false_and, Bool.and_false, nI_1, not_true_eq_false, not_false_eq_true, vp_narI, nI_2, e1, e2, e3, e4, o1]
  refine c_M_server M1 hg hH (fun h2 M2 V2 E2 H2 => ?_)
  simp only [e151_205, e151_208, e151_209, zpush, zopt_some, ↓reduceIte, List.getElem?_cons_succ, List.getElem?_cons_zero, beq_self_eq_true, true_and, and_true, Bool.true_and, Bool.and_true, Bool.false_and, Bool.and_false, nI_1, not_true_eq_false, not_false_eq_true, vp_narI, eq_self]
  exact hQ h2 (V2.1.1.trans F1.1) (zJ_g V2 C1 (zG_chB hg) (fun k _ => by rw [E2]) (V2.k 14 rfl) H2 (hS.k (V2.k 4 rfl) (V2.k 5 rfl)) ((congrFun (V2.k 15 rfl) 0).trans hl))
theorem s_weigh (hJ : zJ h) (hi : i + 2 < z.2.1) (hL : z.2.1 < 2 ^ 31) (hQ : ∀ h' : List zC, h'.length = h.length → zJ h' → Ev 151 842 [zS, .ref 0, .ref 108, .int (nI i)] [] (h', z) Q) : Ev 151 210 [zS, .ref 0, .ref 108, .int (nI i)] [] (h, z) Q := by
  obtain ⟨M, n, H, sv, S, l, hM, hg, hC, hH, hS, hl⟩ := hJ
  have D0 := hC.o
  have e1 : zinb (nI (i + 1)) z.2.1 = true := zinb_nI (by omega) hL
  have e2 : (nI (i + 1)).toNatClampNeg = i + 1 := nI_clamp (by omega)
  have e3 : zinb (nI (i + 2)) z.2.1 = true := zinb_nI (by omega) hL
  have e4 : (nI (i + 2)).toNatClampNeg = i + 2 := nI_clamp (by omega)
  have o0 := hM.q.1
  simp only [e151_210, e151_211, e151_212, e151_213, e151_214, e151_215, e151_216, e151_217, e151_218, e151_219, e151_220, e151_221, zpush, zopt_some, ↓reduceIte, List.getElem?_cons_succ, List.getElem?_cons_zero, beq_self_eq_true, true_and, and_true, Bool.true_and, Bool.and_true, Bool.false_and, Bool.and_false, nI_1, not_true_eq_false, not_false_eq_true, vp_narI, nI_2, e1, e2, e3, e4, D0]
  refine c_D_weigh hg hC (fun h1 F1 C1 => ?_)
  have M1 : zMM h1 M := hM.fr (fun j a b => F1.2 j (by omega))
  have o1 := M1.q.1
  simp only [e151_224, e151_225, e151_226, e151_227, e151_228, e151_229, e151_230, e151_231, e151_232, e151_233, e151_234, e151_235, zpush, zopt_some, ↓reduceIte, List.getElem?_cons_succ, List.getElem?_cons_zero, beq_self_eq_true, true_and, and_true, Bool.true_and, Bool.and_true, Bool.false_and, Bool.and_false, nI_1, not_true_eq_false, not_false_eq_true, vp_narI, nI_2, e1, e2, e3, e4, o1]
  refine c_M_weigh M1 hg hH (fun h2 M2 V2 E2 H2 => ?_)
  simp only [e151_238, e151_241, e151_242, zpush, zopt_some, ↓reduceIte, List.getElem?_cons_succ, List.getElem?_cons_zero, beq_self_eq_true, true_and, and_true, Bool.true_and, Bool.and_true, Bool.false_and, Bool.and_false, nI_1, not_true_eq_false, not_false_eq_true, vp_narI, eq_self]
  exact hQ h2 (V2.1.1.trans F1.1) (zJ_g V2 C1 (zG_chW hg) (fun k _ => by rw [E2]) (V2.k 14 rfl) H2 (hS.k (V2.k 4 rfl) (V2.k 5 rfl)) ((congrFun (V2.k 15 rfl) 0).trans hl))
theorem s_toRack (hJ : zJ h) (hi : i + 2 < z.2.1) (hL : z.2.1 < 2 ^ 31) (hQ : ∀ h' : List zC, h'.length = h.length → zJ h' → Ev 151 842 [zS, .ref 0, .ref 108, .int (nI i)] [] (h', z) Q) : Ev 151 243 [zS, .ref 0, .ref 108, .int (nI i)] [] (h, z) Q := by
  obtain ⟨M, n, H, sv, S, l, hM, hg, hC, hH, hS, hl⟩ := hJ
  have D0 := hC.o
  have e1 : zinb (nI (i + 1)) z.2.1 = true := zinb_nI (by omega) hL
  have e2 : (nI (i + 1)).toNatClampNeg = i + 1 := nI_clamp (by omega)
  have e3 : zinb (nI (i + 2)) z.2.1 = true := zinb_nI (by omega) hL
  have e4 : (nI (i + 2)).toNatClampNeg = i + 2 := nI_clamp (by omega)
  have o0 := hM.q.1
  simp only [e151_243, e151_244, e151_245, e151_246, e151_247, e151_248, e151_249, e151_250, e151_251, e151_252, e151_253, e151_254, zpush, zopt_some, ↓reduceIte, List.getElem?_cons_succ, List.getElem?_cons_zero, beq_self_eq_true, true_and, and_true, Bool.true_and, Bool.and_true, Bool.false_and, Bool.and_false, nI_1, not_true_eq_false, not_false_eq_true, vp_narI, nI_2, e1, e2, e3, e4, D0]
  refine c_D_toRack hg hC (fun h1 F1 C1 => ?_)
  have M1 : zMM h1 M := hM.fr (fun j a b => F1.2 j (by omega))
  have o1 := M1.q.1
  simp only [e151_257, e151_258, e151_259, e151_260, e151_261, e151_262, e151_263, e151_264, e151_265, e151_266, e151_267, e151_268, zpush, zopt_some, ↓reduceIte, List.getElem?_cons_succ, List.getElem?_cons_zero, beq_self_eq_true, true_and, and_true, Bool.true_and, Bool.and_true, Bool.false_and, Bool.and_false, nI_1, not_true_eq_false, not_false_eq_true, vp_narI, nI_2, e1, e2, e3, e4, o1]
  refine c_M_toRack M1 hg hH (fun h2 M2 V2 E2 H2 => ?_)
  simp only [e151_271, e151_274, e151_275, zpush, zopt_some, ↓reduceIte, List.getElem?_cons_succ, List.getElem?_cons_zero, beq_self_eq_true, true_and, and_true, Bool.true_and, Bool.and_true, Bool.false_and, Bool.and_false, nI_1, not_true_eq_false, not_false_eq_true, vp_narI, eq_self]
  exact hQ h2 (V2.1.1.trans F1.1) (zJ_g V2 C1 (zG_chR hg) (fun k _ => by rw [E2]) (V2.k 14 rfl) H2 (hS.k (V2.k 4 rfl) (V2.k 5 rfl)) ((congrFun (V2.k 15 rfl) 0).trans hl))
theorem s_down (hJ : zJ h) (hi : i + 2 < z.2.1) (hL : z.2.1 < 2 ^ 31) (hQ : ∀ h' : List zC, h'.length = h.length → zJ h' → Ev 151 842 [zS, .ref 0, .ref 108, .int (nI i)] [] (h', z) Q) : Ev 151 276 [zS, .ref 0, .ref 108, .int (nI i)] [] (h, z) Q := by
  obtain ⟨M, n, H, sv, S, l, hM, hg, hC, hH, hS, hl⟩ := hJ
  have D0 := hC.o
  have e1 : zinb (nI (i + 1)) z.2.1 = true := zinb_nI (by omega) hL
  have e2 : (nI (i + 1)).toNatClampNeg = i + 1 := nI_clamp (by omega)
  have e3 : zinb (nI (i + 2)) z.2.1 = true := zinb_nI (by omega) hL
  have e4 : (nI (i + 2)).toNatClampNeg = i + 2 := nI_clamp (by omega)
  have o0 := hM.q.1
  have key0 : z.2.2 (i + 2) = 0 → Ev 151 276 [zS, .ref 0, .ref 108, .int (nI i)] [] (h, z) Q := by
    intro hx
    simp only [e151_276, e151_277, e151_278, e151_279, e151_280, e151_281, e151_282, e151_283, e151_284, e151_285, e151_286, e151_287, e151_290, e151_291, e151_294, e151_295, zpush, zopt_some, ↓reduceIte, List.getElem?_cons_succ, List.getElem?_cons_zero, beq_self_eq_true, true_and, and_true, Bool.true_and, Bool.and_true, Bool.false_and, Bool.and_false, nI_1, not_true_eq_false, not_false_eq_true, vp_narI, nI_2, e1, e2, e3, e4, D0, hx, not_false_eq_true]
    refine c_D_down hg (Or.inl rfl) hC (fun h1 F1 C1 => ?_)
    have M1 : zMM h1 M := hM.fr (fun j a b => F1.2 j (by omega))
    have o1 := M1.q.1
    simp only [e151_298, e151_299, e151_300, e151_301, e151_302, e151_303, e151_304, e151_305, e151_306, e151_307, e151_308, e151_309, e151_312, e151_313, e151_316, e151_317, zpush, zopt_some, ↓reduceIte, List.getElem?_cons_succ, List.getElem?_cons_zero, beq_self_eq_true, true_and, and_true, Bool.true_and, Bool.and_true, Bool.false_and, Bool.and_false, nI_1, not_true_eq_false, not_false_eq_true, vp_narI, nI_2, e1, e2, e3, e4, o1, hx, not_false_eq_true]
    refine c_M_down M1 hg (Or.inl rfl) hH (fun h2 M2 V2 E2 H2 => ?_)
    simp only [e151_320, e151_323, e151_324, zpush, zopt_some, ↓reduceIte, List.getElem?_cons_succ, List.getElem?_cons_zero, beq_self_eq_true, true_and, and_true, Bool.true_and, Bool.and_true, Bool.false_and, Bool.and_false, nI_1, not_true_eq_false, not_false_eq_true, vp_narI, eq_self]
    exact hQ h2 (V2.1.1.trans F1.1) (zJ_g V2 C1 (zG_chD hg (Or.inl rfl)) (fun k _ => by rw [E2]) (V2.k 14 rfl) H2 (hS.k (V2.k 4 rfl) (V2.k 5 rfl)) ((congrFun (V2.k 15 rfl) 0).trans hl))
  have key1 : z.2.2 (i + 2) ≠ 0 → Ev 151 276 [zS, .ref 0, .ref 108, .int (nI i)] [] (h, z) Q := by
    intro hx
    simp only [e151_276, e151_277, e151_278, e151_279, e151_280, e151_281, e151_282, e151_283, e151_284, e151_285, e151_286, e151_287, e151_290, e151_291, e151_294, e151_295, zpush, zopt_some, ↓reduceIte, List.getElem?_cons_succ, List.getElem?_cons_zero, beq_self_eq_true, true_and, and_true, Bool.true_and, Bool.and_true, Bool.false_and, Bool.and_false, nI_1, not_true_eq_false, not_false_eq_true, vp_narI, nI_2, e1, e2, e3, e4, D0, hx, not_false_eq_true]
    refine c_D_down hg (Or.inr rfl) hC (fun h1 F1 C1 => ?_)
    have M1 : zMM h1 M := hM.fr (fun j a b => F1.2 j (by omega))
    have o1 := M1.q.1
    simp only [e151_298, e151_299, e151_300, e151_301, e151_302, e151_303, e151_304, e151_305, e151_306, e151_307, e151_308, e151_309, e151_312, e151_313, e151_316, e151_317, zpush, zopt_some, ↓reduceIte, List.getElem?_cons_succ, List.getElem?_cons_zero, beq_self_eq_true, true_and, and_true, Bool.true_and, Bool.and_true, Bool.false_and, Bool.and_false, nI_1, not_true_eq_false, not_false_eq_true, vp_narI, nI_2, e1, e2, e3, e4, o1, hx, not_false_eq_true]
    refine c_M_down M1 hg (Or.inr rfl) hH (fun h2 M2 V2 E2 H2 => ?_)
    simp only [e151_320, e151_323, e151_324, zpush, zopt_some, ↓reduceIte, List.getElem?_cons_succ, List.getElem?_cons_zero, beq_self_eq_true, true_and, and_true, Bool.true_and, Bool.and_true, Bool.false_and, Bool.and_false, nI_1, not_true_eq_false, not_false_eq_true, vp_narI, eq_self]
    exact hQ h2 (V2.1.1.trans F1.1) (zJ_g V2 C1 (zG_chD hg (Or.inr rfl)) (fun k _ => by rw [E2]) (V2.k 14 rfl) H2 (hS.k (V2.k 4 rfl) (V2.k 5 rfl)) ((congrFun (V2.k 15 rfl) 0).trans hl))
  by_cases hx : z.2.2 (i + 2) = 0
  · exact key0 hx
  · exact key1 hx
theorem s_store (hJ : zJ h) (hi : i + 2 < z.2.1) (hL : z.2.1 < 2 ^ 31) (hQ : ∀ h' : List zC, h'.length = h.length → zJ h' → Ev 151 842 [zS, .ref 0, .ref 108, .int (nI i)] [] (h', z) Q) : Ev 151 325 [zS, .ref 0, .ref 108, .int (nI i)] [] (h, z) Q := by
  obtain ⟨M, n, H, sv, S, l, hM, hg, hC, hH, hS, hl⟩ := hJ
  have D0 := hC.o
  have e1 : zinb (nI (i + 1)) z.2.1 = true := zinb_nI (by omega) hL
  have e2 : (nI (i + 1)).toNatClampNeg = i + 1 := nI_clamp (by omega)
  have e3 : zinb (nI (i + 2)) z.2.1 = true := zinb_nI (by omega) hL
  have e4 : (nI (i + 2)).toNatClampNeg = i + 2 := nI_clamp (by omega)
  have o0 := hM.q.1
  simp only [e151_325, e151_326, e151_327, e151_328, e151_329, e151_330, e151_331, zpush, zopt_some, ↓reduceIte, List.getElem?_cons_succ, List.getElem?_cons_zero, beq_self_eq_true, true_and, and_true, Bool.true_and, Bool.and_true, Bool.false_and, Bool.and_false, nI_1, not_true_eq_false, not_false_eq_true, vp_narI, nI_2, e1, e2, e3, e4, D0]
  refine c_D_store hg hC (fun h1 F1 C1 => ?_)
  have M1 : zMM h1 M := hM.fr (fun j a b => F1.2 j (by omega))
  have o1 := M1.q.1
  simp only [e151_334, e151_335, e151_336, e151_337, e151_338, e151_339, e151_340, zpush, zopt_some, ↓reduceIte, List.getElem?_cons_succ, List.getElem?_cons_zero, beq_self_eq_true, true_and, and_true, Bool.true_and, Bool.and_true, Bool.false_and, Bool.and_false, nI_1, not_true_eq_false, not_false_eq_true, vp_narI, nI_2, e1, e2, e3, e4, o1]
  refine c_M_store M1 hg hH (fun h2 M2 V2 E2 H2 => ?_)
  simp only [e151_343, e151_346, e151_347, zpush, zopt_some, ↓reduceIte, List.getElem?_cons_succ, List.getElem?_cons_zero, beq_self_eq_true, true_and, and_true, Bool.true_and, Bool.and_true, Bool.false_and, Bool.and_false, nI_1, not_true_eq_false, not_false_eq_true, vp_narI, eq_self]
  exact hQ h2 (V2.1.1.trans F1.1) (zJ_g V2 C1 (zG_chK hg) (fun k _ => by rw [E2]) (V2.k 14 rfl) H2 (hS.k (V2.k 4 rfl) (V2.k 5 rfl)) ((congrFun (V2.k 15 rfl) 0).trans hl))
theorem s_drop (hJ : zJ h) (hi : i + 2 < z.2.1) (hL : z.2.1 < 2 ^ 31) (hQ : ∀ h' : List zC, h'.length = h.length → zJ h' → Ev 151 842 [zS, .ref 0, .ref 108, .int (nI i)] [] (h', z) Q) : Ev 151 348 [zS, .ref 0, .ref 108, .int (nI i)] [] (h, z) Q := by
  obtain ⟨M, n, H, sv, S, l, hM, hg, hC, hH, hS, hl⟩ := hJ
  have D0 := hC.o
  have e1 : zinb (nI (i + 1)) z.2.1 = true := zinb_nI (by omega) hL
  have e2 : (nI (i + 1)).toNatClampNeg = i + 1 := nI_clamp (by omega)
  have e3 : zinb (nI (i + 2)) z.2.1 = true := zinb_nI (by omega) hL
  have e4 : (nI (i + 2)).toNatClampNeg = i + 2 := nI_clamp (by omega)
  have o0 := hM.q.1
  simp only [e151_348, e151_349, e151_350, e151_351, e151_352, e151_353, e151_354, zpush, zopt_some, ↓reduceIte, List.getElem?_cons_succ, List.getElem?_cons_zero, beq_self_eq_true, true_and, and_true, Bool.true_and, Bool.and_true, Bool.false_and, Bool.and_false, nI_1, not_true_eq_false, not_false_eq_true, vp_narI, nI_2, e1, e2, e3, e4, D0]
  refine c_D_drop hg hC (fun h1 F1 C1 => ?_)
  have M1 : zMM h1 M := hM.fr (fun j a b => F1.2 j (by omega))
  have o1 := M1.q.1
  simp only [e151_357, e151_358, e151_359, e151_360, e151_361, e151_362, e151_363, zpush, zopt_some, ↓reduceIte, List.getElem?_cons_succ, List.getElem?_cons_zero, beq_self_eq_true, true_and, and_true, Bool.true_and, Bool.and_true, Bool.false_and, Bool.and_false, nI_1, not_true_eq_false, not_false_eq_true, vp_narI, nI_2, e1, e2, e3, e4, o1]
  refine c_M_drop M1 hg hH (fun h2 M2 V2 E2 H2 => ?_)
  simp only [e151_366, e151_369, e151_370, zpush, zopt_some, ↓reduceIte, List.getElem?_cons_succ, List.getElem?_cons_zero, beq_self_eq_true, true_and, and_true, Bool.true_and, Bool.and_true, Bool.false_and, Bool.and_false, nI_1, not_true_eq_false, not_false_eq_true, vp_narI, eq_self]
  exact hQ h2 (V2.1.1.trans F1.1) (zJ_g V2 C1 (zG_chX hg) (fun k _ => by rw [E2]) (V2.k 14 rfl) H2 (hS.k (V2.k 4 rfl) (V2.k 5 rfl)) ((congrFun (V2.k 15 rfl) 0).trans hl))
theorem s_pin (hJ : zJ h) (hi : i + 2 < z.2.1) (hL : z.2.1 < 2 ^ 31) (hQ : ∀ h' : List zC, h'.length = h.length → zJ h' → Ev 151 842 [zS, .ref 0, .ref 108, .int (nI i)] [] (h', z) Q) : Ev 151 371 [zS, .ref 0, .ref 108, .int (nI i)] [] (h, z) Q := by
  obtain ⟨M, n, H, sv, S, l, hM, hg, hC, hH, hS, hl⟩ := hJ
  have D0 := hC.o
  have e1 : zinb (nI (i + 1)) z.2.1 = true := zinb_nI (by omega) hL
  have e2 : (nI (i + 1)).toNatClampNeg = i + 1 := nI_clamp (by omega)
  have e3 : zinb (nI (i + 2)) z.2.1 = true := zinb_nI (by omega) hL
  have e4 : (nI (i + 2)).toNatClampNeg = i + 2 := nI_clamp (by omega)
  have o0 := hM.q.1
  simp only [e151_371, e151_372, e151_373, e151_374, e151_375, e151_376, e151_377, e151_378, e151_379, e151_380, e151_381, e151_382, zpush, zopt_some, ↓reduceIte, List.getElem?_cons_succ, List.getElem?_cons_zero, beq_self_eq_true, true_and, and_true, Bool.true_and, Bool.and_true, Bool.false_and, Bool.and_false, nI_1, not_true_eq_false, not_false_eq_true, vp_narI, nI_2, e1, e2, e3, e4, D0]
  refine c_D_pin hg hC (fun h1 F1 C1 => ?_)
  have M1 : zMM h1 M := hM.fr (fun j a b => F1.2 j (by omega))
  have o1 := M1.q.1
  simp only [e151_385, e151_386, e151_387, e151_388, e151_389, e151_390, e151_391, e151_392, e151_393, e151_394, e151_395, e151_396, zpush, zopt_some, ↓reduceIte, List.getElem?_cons_succ, List.getElem?_cons_zero, beq_self_eq_true, true_and, and_true, Bool.true_and, Bool.and_true, Bool.false_and, Bool.and_false, nI_1, not_true_eq_false, not_false_eq_true, vp_narI, nI_2, e1, e2, e3, e4, o1]
  refine c_M_pin M1 hg hH (fun h2 M2 V2 E2 H2 => ?_)
  simp only [e151_399, e151_402, e151_403, zpush, zopt_some, ↓reduceIte, List.getElem?_cons_succ, List.getElem?_cons_zero, beq_self_eq_true, true_and, and_true, Bool.true_and, Bool.and_true, Bool.false_and, Bool.and_false, nI_1, not_true_eq_false, not_false_eq_true, vp_narI, eq_self]
  exact hQ h2 (V2.1.1.trans F1.1) (zJ_g V2 C1 (zG_chP hg) (fun k _ => by rw [E2]) (V2.k 14 rfl) H2 (hS.k (V2.k 4 rfl) (V2.k 5 rfl)) ((congrFun (V2.k 15 rfl) 0).trans hl))
theorem s_ofServer (hJ : zJ h) (hi : i + 2 < z.2.1) (hL : z.2.1 < 2 ^ 31) (hQ : ∀ h' : List zC, h'.length = h.length → zJ h' → Ev 151 842 [zS, .ref 0, .ref 108, .int (nI i)] [] (h', z) Q) : Ev 151 404 [zS, .ref 0, .ref 108, .int (nI i)] [] (h, z) Q := by
  obtain ⟨M, n, H, sv, S, l, hM, hg, hC, hH, hS, hl⟩ := hJ
  have D0 := hC.o
  have e1 : zinb (nI (i + 1)) z.2.1 = true := zinb_nI (by omega) hL
  have e2 : (nI (i + 1)).toNatClampNeg = i + 1 := nI_clamp (by omega)
  have e3 : zinb (nI (i + 2)) z.2.1 = true := zinb_nI (by omega) hL
  have e4 : (nI (i + 2)).toNatClampNeg = i + 2 := nI_clamp (by omega)
  have o0 := hM.q.1
  simp only [e151_404, e151_405, e151_406, e151_407, e151_408, e151_409, e151_410, e151_411, e151_412, e151_413, e151_414, e151_415, zpush, zopt_some, ↓reduceIte, List.getElem?_cons_succ, List.getElem?_cons_zero, beq_self_eq_true, true_and, and_true, Bool.true_and, Bool.and_true, Bool.false_and, Bool.and_false, nI_1, not_true_eq_false, not_false_eq_true, vp_narI, nI_2, e1, e2, e3, e4, D0]
  obtain ⟨⟨P, T, hK⟩, -⟩ := id hC
  refine (c_D_ofServer hg hK).mpr ?_
  have o1 := o0
  simp only [e151_418, e151_419, e151_420, e151_421, e151_422, e151_423, e151_424, e151_425, e151_426, e151_427, e151_428, e151_429, zpush, zopt_some, ↓reduceIte, List.getElem?_cons_succ, List.getElem?_cons_zero, beq_self_eq_true, true_and, and_true, Bool.true_and, Bool.and_true, Bool.false_and, Bool.and_false, nI_1, not_true_eq_false, not_false_eq_true, vp_narI, nI_2, e1, e2, e3, e4, o1]
  refine c_M_ofServer hM hg rfl (fun h2 M2 V2 => ?_)
  simp only [e151_432, e151_435, e151_436, zpush, zopt_some, ↓reduceIte, List.getElem?_cons_succ, List.getElem?_cons_zero, beq_self_eq_true, true_and, and_true, Bool.true_and, Bool.and_true, Bool.false_and, Bool.and_false, nI_1, not_true_eq_false, not_false_eq_true, vp_narI, eq_self]
  exact hQ h2 V2.1.1 (zJ_g V2 hC hg (fun k hk => congrFun (V2.k 0 rfl) k) (V2.k 14 rfl) (hH.k (V2.k 2 rfl) (V2.k 3 rfl)) (hS.k (V2.k 4 rfl) (V2.k 5 rfl)) ((congrFun (V2.k 15 rfl) 0).trans hl))
theorem s_place (hJ : zJ h) (hi : i + 2 < z.2.1) (hL : z.2.1 < 2 ^ 31) (hQ : ∀ h' : List zC, h'.length = h.length → zJ h' → Ev 151 842 [zS, .ref 0, .ref 108, .int (nI i)] [] (h', z) Q) : Ev 151 437 [zS, .ref 0, .ref 108, .int (nI i)] [] (h, z) Q := by
  obtain ⟨M, n, H, sv, S, l, hM, hg, hC, hH, hS, hl⟩ := hJ
  have D0 := hC.o
  have e1 : zinb (nI (i + 1)) z.2.1 = true := zinb_nI (by omega) hL
  have e2 : (nI (i + 1)).toNatClampNeg = i + 1 := nI_clamp (by omega)
  have e3 : zinb (nI (i + 2)) z.2.1 = true := zinb_nI (by omega) hL
  have e4 : (nI (i + 2)).toNatClampNeg = i + 2 := nI_clamp (by omega)
  have o0 := hM.q.1
  simp only [e151_437, e151_438, e151_439, e151_440, e151_441, e151_442, e151_443, e151_444, e151_445, e151_446, e151_447, e151_448, zpush, zopt_some, ↓reduceIte, List.getElem?_cons_succ, List.getElem?_cons_zero, beq_self_eq_true, true_and, and_true, Bool.true_and, Bool.and_true, Bool.false_and, Bool.and_false, nI_1, not_true_eq_false, not_false_eq_true, vp_narI, nI_2, e1, e2, e3, e4, D0]
  obtain ⟨⟨P, T, hK⟩, -⟩ := id hC
  refine c_D_place hg hK (fun h1 F1' K1 => ?_)
  have F1 := zWr_108 F1'
  have C1 := hC.ko F1' K1
  have M1 : zMM h1 M := hM.fr (fun j a b => F1.2 j (by omega))
  have o1 := M1.q.1
  simp only [e151_451, e151_452, e151_453, e151_454, e151_455, e151_456, e151_457, e151_458, e151_459, e151_460, e151_461, e151_462, zpush, zopt_some, ↓reduceIte, List.getElem?_cons_succ, List.getElem?_cons_zero, beq_self_eq_true, true_and, and_true, Bool.true_and, Bool.and_true, Bool.false_and, Bool.and_false, nI_1, not_true_eq_false, not_false_eq_true, vp_narI, nI_2, e1, e2, e3, e4, o1]
  refine c_M_place M1 hg rfl (fun h2 M2 V2 => ?_)
  simp only [e151_465, e151_468, e151_469, zpush, zopt_some, ↓reduceIte, List.getElem?_cons_succ, List.getElem?_cons_zero, beq_self_eq_true, true_and, and_true, Bool.true_and, Bool.and_true, Bool.false_and, Bool.and_false, nI_1, not_true_eq_false, not_false_eq_true, vp_narI, eq_self]
  exact hQ h2 (V2.1.1.trans F1.1) (zJ_g V2 C1 hg (fun k hk => congrFun (V2.k 0 rfl) k) (V2.k 14 rfl) (hH.k (V2.k 2 rfl) (V2.k 3 rfl)) (hS.k (V2.k 4 rfl) (V2.k 5 rfl)) ((congrFun (V2.k 15 rfl) 0).trans hl))
theorem s_straw (hJ : zJ h) (hi : i + 2 < z.2.1) (hL : z.2.1 < 2 ^ 31) (hQ : ∀ h' : List zC, h'.length = h.length → zJ h' → Ev 151 842 [zS, .ref 0, .ref 108, .int (nI i)] [] (h', z) Q) : Ev 151 470 [zS, .ref 0, .ref 108, .int (nI i)] [] (h, z) Q := by
  obtain ⟨M, n, H, sv, S, l, hM, hg, hC, hH, hS, hl⟩ := hJ
  have D0 := hC.o
  have e1 : zinb (nI (i + 1)) z.2.1 = true := zinb_nI (by omega) hL
  have e2 : (nI (i + 1)).toNatClampNeg = i + 1 := nI_clamp (by omega)
  have e3 : zinb (nI (i + 2)) z.2.1 = true := zinb_nI (by omega) hL
  have e4 : (nI (i + 2)).toNatClampNeg = i + 2 := nI_clamp (by omega)
  have o0 := hM.q.1
  simp only [e151_470, e151_471, e151_472, e151_473, e151_474, e151_475, e151_476, e151_477, e151_478, e151_479, e151_480, e151_481, zpush, zopt_some, ↓reduceIte, List.getElem?_cons_succ, List.getElem?_cons_zero, beq_self_eq_true, true_and, and_true, Bool.true_and, Bool.and_true, Bool.false_and, Bool.and_false, nI_1, not_true_eq_false, not_false_eq_true, vp_narI, nI_2, e1, e2, e3, e4, D0]
  obtain ⟨⟨P, T, hK⟩, -⟩ := id hC
  refine (c_D_straw hg hK).mpr ?_
  have o1 := o0
  simp only [e151_484, e151_485, e151_486, e151_487, e151_488, e151_489, e151_490, e151_491, e151_492, e151_493, e151_494, e151_495, zpush, zopt_some, ↓reduceIte, List.getElem?_cons_succ, List.getElem?_cons_zero, beq_self_eq_true, true_and, and_true, Bool.true_and, Bool.and_true, Bool.false_and, Bool.and_false, nI_1, not_true_eq_false, not_false_eq_true, vp_narI, nI_2, e1, e2, e3, e4, o1]
  refine (c_M_straw hM hg rfl).mpr ?_
  simp only [e151_498, e151_501, e151_502, zpush, zopt_some, ↓reduceIte, List.getElem?_cons_succ, List.getElem?_cons_zero, beq_self_eq_true, true_and, and_true, Bool.true_and, Bool.and_true, Bool.false_and, Bool.and_false, nI_1, not_true_eq_false, not_false_eq_true, vp_narI, eq_self]
  exact hQ h rfl ⟨M, n, H, sv, S, l, hM, hg, hC, hH, hS, hl⟩
theorem s_move (hJ : zJ h) (hi : i + 2 < z.2.1) (hL : z.2.1 < 2 ^ 31) (hQ : ∀ h' : List zC, h'.length = h.length → zJ h' → Ev 151 842 [zS, .ref 0, .ref 108, .int (nI i)] [] (h', z) Q) : Ev 151 503 [zS, .ref 0, .ref 108, .int (nI i)] [] (h, z) Q := by
  obtain ⟨M, n, H, sv, S, l, hM, hg, hC, hH, hS, hl⟩ := hJ
  have D0 := hC.o
  have e1 : zinb (nI (i + 1)) z.2.1 = true := zinb_nI (by omega) hL
  have e2 : (nI (i + 1)).toNatClampNeg = i + 1 := nI_clamp (by omega)
  have e3 : zinb (nI (i + 2)) z.2.1 = true := zinb_nI (by omega) hL
  have e4 : (nI (i + 2)).toNatClampNeg = i + 2 := nI_clamp (by omega)
  have o0 := hM.q.1
  simp only [e151_503, e151_504, e151_505, e151_506, e151_507, e151_508, e151_509, e151_510, e151_511, e151_512, e151_513, e151_514, zpush, zopt_some, ↓reduceIte, List.getElem?_cons_succ, List.getElem?_cons_zero, beq_self_eq_true, true_and, and_true, Bool.true_and, Bool.and_true, Bool.false_and, Bool.and_false, nI_1, not_true_eq_false, not_false_eq_true, vp_narI, nI_2, e1, e2, e3, e4, D0]
  obtain ⟨⟨P, T, hK⟩, -⟩ := id hC
  refine (c_D_move hg hK).mpr ?_
  have o1 := o0
  simp only [e151_517, e151_518, e151_519, e151_520, e151_521, e151_522, e151_523, e151_524, e151_525, e151_526, e151_527, e151_528, zpush, zopt_some, ↓reduceIte, List.getElem?_cons_succ, List.getElem?_cons_zero, beq_self_eq_true, true_and, and_true, Bool.true_and, Bool.and_true, Bool.false_and, Bool.and_false, nI_1, not_true_eq_false, not_false_eq_true, vp_narI, nI_2, e1, e2, e3, e4, o1]
  refine (c_M_move hM hg rfl).mpr ?_
  simp only [e151_531, e151_534, e151_535, zpush, zopt_some, ↓reduceIte, List.getElem?_cons_succ, List.getElem?_cons_zero, beq_self_eq_true, true_and, and_true, Bool.true_and, Bool.and_true, Bool.false_and, Bool.and_false, nI_1, not_true_eq_false, not_false_eq_true, vp_narI, eq_self]
  exact hQ h rfl ⟨M, n, H, sv, S, l, hM, hg, hC, hH, hS, hl⟩
theorem s_object (hJ : zJ h) (hi : i + 2 < z.2.1) (hL : z.2.1 < 2 ^ 31) (hQ : ∀ h' : List zC, h'.length = h.length → zJ h' → Ev 151 842 [zS, .ref 0, .ref 108, .int (nI i)] [] (h', z) Q) : Ev 151 536 [zS, .ref 0, .ref 108, .int (nI i)] [] (h, z) Q := by
  obtain ⟨M, n, H, sv, S, l, hM, hg, hC, hH, hS, hl⟩ := hJ
  have D0 := hC.o
  have e1 : zinb (nI (i + 1)) z.2.1 = true := zinb_nI (by omega) hL
  have e2 : (nI (i + 1)).toNatClampNeg = i + 1 := nI_clamp (by omega)
  have e3 : zinb (nI (i + 2)) z.2.1 = true := zinb_nI (by omega) hL
  have e4 : (nI (i + 2)).toNatClampNeg = i + 2 := nI_clamp (by omega)
  have o0 := hM.q.1
  simp only [e151_536, e151_537, e151_538, e151_539, e151_540, e151_541, e151_542, e151_543, e151_544, e151_545, e151_546, e151_547, zpush, zopt_some, ↓reduceIte, List.getElem?_cons_succ, List.getElem?_cons_zero, beq_self_eq_true, true_and, and_true, Bool.true_and, Bool.and_true, Bool.false_and, Bool.and_false, nI_1, not_true_eq_false, not_false_eq_true, vp_narI, nI_2, e1, e2, e3, e4, D0]
  obtain ⟨⟨P, T, hK⟩, -⟩ := id hC
  refine (c_D_object hg hK).mpr ?_
  have o1 := o0
  simp only [e151_550, e151_551, e151_552, e151_553, e151_554, e151_555, e151_556, e151_557, e151_558, e151_559, e151_560, e151_561, zpush, zopt_some, ↓reduceIte, List.getElem?_cons_succ, List.getElem?_cons_zero, beq_self_eq_true, true_and, and_true, Bool.true_and, Bool.and_true, Bool.false_and, Bool.and_false, nI_1, not_true_eq_false, not_false_eq_true, vp_narI, nI_2, e1, e2, e3, e4, o1]
  refine c_M_object hM hg rfl (fun h2 M2 V2 => ?_)
  simp only [e151_564, e151_567, e151_568, zpush, zopt_some, ↓reduceIte, List.getElem?_cons_succ, List.getElem?_cons_zero, beq_self_eq_true, true_and, and_true, Bool.true_and, Bool.and_true, Bool.false_and, Bool.and_false, nI_1, not_true_eq_false, not_false_eq_true, vp_narI, eq_self]
  exact hQ h2 V2.1.1 (zJ_g V2 hC hg (fun k hk => congrFun (V2.k 0 rfl) k) (V2.k 14 rfl) (hH.k (V2.k 2 rfl) (V2.k 3 rfl)) (hS.k (V2.k 4 rfl) (V2.k 5 rfl)) ((congrFun (V2.k 15 rfl) 0).trans hl))
theorem s_count (hJ : zJ h) (hi : i + 2 < z.2.1) (hL : z.2.1 < 2 ^ 31) (hQ : ∀ h' : List zC, h'.length = h.length → zJ h' → Ev 151 842 [zS, .ref 0, .ref 108, .int (nI i)] [] (h', z) Q) : Ev 151 569 [zS, .ref 0, .ref 108, .int (nI i)] [] (h, z) Q := by
  obtain ⟨M, n, H, sv, S, l, hM, hg, hC, hH, hS, hl⟩ := hJ
  have D0 := hC.o
  have e1 : zinb (nI (i + 1)) z.2.1 = true := zinb_nI (by omega) hL
  have e2 : (nI (i + 1)).toNatClampNeg = i + 1 := nI_clamp (by omega)
  have e3 : zinb (nI (i + 2)) z.2.1 = true := zinb_nI (by omega) hL
  have e4 : (nI (i + 2)).toNatClampNeg = i + 2 := nI_clamp (by omega)
  have o0 := hM.q.1
  simp only [e151_569, e151_570, e151_571, e151_572, e151_573, e151_574, e151_575, zpush, zopt_some, ↓reduceIte, List.getElem?_cons_succ, List.getElem?_cons_zero, beq_self_eq_true, true_and, and_true, Bool.true_and, Bool.and_true, Bool.false_and, Bool.and_false, nI_1, not_true_eq_false, not_false_eq_true, vp_narI, nI_2, e1, e2, e3, e4, D0]
  refine (c_D_count hg hC).mpr ?_
  have o1 := o0
  simp only [e151_578, e151_579, e151_580, e151_581, e151_582, e151_583, e151_584, zpush, zopt_some, ↓reduceIte, List.getElem?_cons_succ, List.getElem?_cons_zero, beq_self_eq_true, true_and, and_true, Bool.true_and, Bool.and_true, Bool.false_and, Bool.and_false, nI_1, not_true_eq_false, not_false_eq_true, vp_narI, nI_2, e1, e2, e3, e4, o1]
  refine c_M_count hM hg rfl hl hH.1 (fun h2 M2 V2 => ?_)
  simp only [e151_587, e151_590, e151_591, zpush, zopt_some, ↓reduceIte, List.getElem?_cons_succ, List.getElem?_cons_zero, beq_self_eq_true, true_and, and_true, Bool.true_and, Bool.and_true, Bool.false_and, Bool.and_false, nI_1, not_true_eq_false, not_false_eq_true, vp_narI, eq_self]
  exact hQ h2 V2.1.1 (zJ_g V2 hC hg (fun k hk => congrFun (V2.k 0 rfl) k) (V2.k 14 rfl) (hH.k (V2.k 2 rfl) (V2.k 3 rfl)) (hS.k (V2.k 4 rfl) (V2.k 5 rfl)) ((congrFun (V2.k 15 rfl) 0).trans hl))
theorem s_movesIf (hJ : zJ h) (hi : i + 2 < z.2.1) (hL : z.2.1 < 2 ^ 31) (hQ : ∀ h' : List zC, h'.length = h.length → zJ h' → Ev 151 842 [zS, .ref 0, .ref 108, .int (nI i)] [] (h', z) Q) : Ev 151 592 [zS, .ref 0, .ref 108, .int (nI i)] [] (h, z) Q := by
  obtain ⟨M, n, H, sv, S, l, hM, hg, hC, hH, hS, hl⟩ := hJ
  have D0 := hC.o
  have e1 : zinb (nI (i + 1)) z.2.1 = true := zinb_nI (by omega) hL
  have e2 : (nI (i + 1)).toNatClampNeg = i + 1 := nI_clamp (by omega)
  have e3 : zinb (nI (i + 2)) z.2.1 = true := zinb_nI (by omega) hL
  have e4 : (nI (i + 2)).toNatClampNeg = i + 2 := nI_clamp (by omega)
  have o0 := hM.q.1
  simp only [e151_592, e151_593, e151_594, e151_595, e151_596, e151_597, e151_598, e151_599, e151_600, e151_601, e151_602, e151_603, zpush, zopt_some, ↓reduceIte, List.getElem?_cons_succ, List.getElem?_cons_zero, beq_self_eq_true, true_and, and_true, Bool.true_and, Bool.and_true, Bool.false_and, Bool.and_false, nI_1, not_true_eq_false, not_false_eq_true, vp_narI, nI_2, e1, e2, e3, e4, D0]
  obtain ⟨⟨P, T, hK⟩, -⟩ := id hC
  refine c_D_movesIf hg hK (fun h1 F1' K1 => ?_)
  have F1 := zWr_108 F1'
  have C1 := hC.ko F1' K1
  have M1 : zMM h1 M := hM.fr (fun j a b => F1.2 j (by omega))
  have o1 := M1.q.1
  simp only [e151_606, e151_607, e151_608, e151_609, e151_610, e151_611, e151_612, e151_613, e151_614, e151_615, e151_616, e151_617, zpush, zopt_some, ↓reduceIte, List.getElem?_cons_succ, List.getElem?_cons_zero, beq_self_eq_true, true_and, and_true, Bool.true_and, Bool.and_true, Bool.false_and, Bool.and_false, nI_1, not_true_eq_false, not_false_eq_true, vp_narI, nI_2, e1, e2, e3, e4, o1]
  refine c_M_movesIf M1 hg rfl (fun h2 M2 V2 E2 => ?_)
  simp only [e151_620, e151_623, e151_624, zpush, zopt_some, ↓reduceIte, List.getElem?_cons_succ, List.getElem?_cons_zero, beq_self_eq_true, true_and, and_true, Bool.true_and, Bool.and_true, Bool.false_and, Bool.and_false, nI_1, not_true_eq_false, not_false_eq_true, vp_narI, eq_self]
  exact hQ h2 (V2.1.1.trans F1.1) (zJ_g V2 C1 hg (fun k hk => E2 k hk) (V2.k 14 rfl) (hH.k (V2.k 2 rfl) (V2.k 3 rfl)) (hS.k (V2.k 4 rfl) (V2.k 5 rfl)) ((congrFun (V2.k 15 rfl) 0).trans hl))
theorem s_lostWith (hJ : zJ h) (hi : i + 2 < z.2.1) (hL : z.2.1 < 2 ^ 31) (hQ : ∀ h' : List zC, h'.length = h.length → zJ h' → Ev 151 842 [zS, .ref 0, .ref 108, .int (nI i)] [] (h', z) Q) : Ev 151 625 [zS, .ref 0, .ref 108, .int (nI i)] [] (h, z) Q := by
  obtain ⟨M, n, H, sv, S, l, hM, hg, hC, hH, hS, hl⟩ := hJ
  have D0 := hC.o
  have e1 : zinb (nI (i + 1)) z.2.1 = true := zinb_nI (by omega) hL
  have e2 : (nI (i + 1)).toNatClampNeg = i + 1 := nI_clamp (by omega)
  have e3 : zinb (nI (i + 2)) z.2.1 = true := zinb_nI (by omega) hL
  have e4 : (nI (i + 2)).toNatClampNeg = i + 2 := nI_clamp (by omega)
  have o0 := hM.q.1
  simp only [e151_625, e151_626, e151_627, e151_628, e151_629, e151_630, e151_631, e151_632, e151_633, e151_634, e151_635, e151_636, zpush, zopt_some, ↓reduceIte, List.getElem?_cons_succ, List.getElem?_cons_zero, beq_self_eq_true, true_and, and_true, Bool.true_and, Bool.and_true, Bool.false_and, Bool.and_false, nI_1, not_true_eq_false, not_false_eq_true, vp_narI, nI_2, e1, e2, e3, e4, D0]
  obtain ⟨⟨P, T, hK⟩, -⟩ := id hC
  refine (c_D_lostWith hg hK).mpr ?_
  have o1 := o0
  simp only [e151_639, e151_640, e151_641, e151_642, e151_643, e151_644, e151_645, e151_646, e151_647, e151_648, e151_649, e151_650, zpush, zopt_some, ↓reduceIte, List.getElem?_cons_succ, List.getElem?_cons_zero, beq_self_eq_true, true_and, and_true, Bool.true_and, Bool.and_true, Bool.false_and, Bool.and_false, nI_1, not_true_eq_false, not_false_eq_true, vp_narI, nI_2, e1, e2, e3, e4, o1]
  refine c_M_lostWith hM hg rfl (fun h2 M2 V2 => ?_)
  simp only [e151_653, e151_656, e151_657, zpush, zopt_some, ↓reduceIte, List.getElem?_cons_succ, List.getElem?_cons_zero, beq_self_eq_true, true_and, and_true, Bool.true_and, Bool.and_true, Bool.false_and, Bool.and_false, nI_1, not_true_eq_false, not_false_eq_true, vp_narI, eq_self]
  exact hQ h2 V2.1.1 (zJ_g V2 hC hg (fun k hk => congrFun (V2.k 0 rfl) k) (V2.k 14 rfl) (hH.k (V2.k 2 rfl) (V2.k 3 rfl)) (hS.k (V2.k 4 rfl) (V2.k 5 rfl)) ((congrFun (V2.k 15 rfl) 0).trans hl))
theorem s_bestWeight (hJ : zJ h) (hi : i + 2 < z.2.1) (hL : z.2.1 < 2 ^ 31) (hQ : ∀ h' : List zC, h'.length = h.length → zJ h' → Ev 151 842 [zS, .ref 0, .ref 108, .int (nI i)] [] (h', z) Q) : Ev 151 658 [zS, .ref 0, .ref 108, .int (nI i)] [] (h, z) Q := by
  obtain ⟨M, n, H, sv, S, l, hM, hg, hC, hH, hS, hl⟩ := hJ
  have D0 := hC.o
  have e1 : zinb (nI (i + 1)) z.2.1 = true := zinb_nI (by omega) hL
  have e2 : (nI (i + 1)).toNatClampNeg = i + 1 := nI_clamp (by omega)
  have e3 : zinb (nI (i + 2)) z.2.1 = true := zinb_nI (by omega) hL
  have e4 : (nI (i + 2)).toNatClampNeg = i + 2 := nI_clamp (by omega)
  have o0 := hM.q.1
  simp only [e151_658, e151_659, e151_660, e151_661, e151_662, e151_663, e151_664, e151_665, e151_666, e151_667, e151_668, e151_669, zpush, zopt_some, ↓reduceIte, List.getElem?_cons_succ, List.getElem?_cons_zero, beq_self_eq_true, true_and, and_true, Bool.true_and, Bool.and_true, Bool.false_and, Bool.and_false, nI_1, not_true_eq_false, not_false_eq_true, vp_narI, nI_2, e1, e2, e3, e4, D0]
  obtain ⟨⟨P, T, hK⟩, -⟩ := id hC
  refine c_D_bestWeight hg hK (fun h1 F1' K1 => ?_)
  have F1 := zWr_108 F1'
  have C1 := hC.ko F1' K1
  have M1 : zMM h1 M := hM.fr (fun j a b => F1.2 j (by omega))
  have o1 := M1.q.1
  simp only [e151_672, e151_673, e151_674, e151_675, e151_676, e151_677, e151_678, e151_679, e151_680, e151_681, e151_682, e151_683, zpush, zopt_some, ↓reduceIte, List.getElem?_cons_succ, List.getElem?_cons_zero, beq_self_eq_true, true_and, and_true, Bool.true_and, Bool.and_true, Bool.false_and, Bool.and_false, nI_1, not_true_eq_false, not_false_eq_true, vp_narI, nI_2, e1, e2, e3, e4, o1]
  refine c_M_bestWeight M1 hg rfl (fun h2 M2 V2 E2 => ?_)
  simp only [e151_686, e151_689, e151_690, zpush, zopt_some, ↓reduceIte, List.getElem?_cons_succ, List.getElem?_cons_zero, beq_self_eq_true, true_and, and_true, Bool.true_and, Bool.and_true, Bool.false_and, Bool.and_false, nI_1, not_true_eq_false, not_false_eq_true, vp_narI, eq_self]
  exact hQ h2 (V2.1.1.trans F1.1) (zJ_g V2 C1 hg (fun k hk => E2 k hk) (V2.k 14 rfl) (hH.k (V2.k 2 rfl) (V2.k 3 rfl)) (hS.k (V2.k 4 rfl) (V2.k 5 rfl)) ((congrFun (V2.k 15 rfl) 0).trans hl))
theorem s_put (hJ : zJ h) (hi : i + 2 < z.2.1) (hL : z.2.1 < 2 ^ 31) (hQ : ∀ h' : List zC, h'.length = h.length → zJ h' → Ev 151 842 [zS, .ref 0, .ref 108, .int (nI i)] [] (h', z) Q) : Ev 151 691 [zS, .ref 0, .ref 108, .int (nI i)] [] (h, z) Q := by
  obtain ⟨M, n, H, sv, S, l, hM, hg, hC, hH, hS, hl⟩ := hJ
  have D0 := hC.o
  have e1 : zinb (nI (i + 1)) z.2.1 = true := zinb_nI (by omega) hL
  have e2 : (nI (i + 1)).toNatClampNeg = i + 1 := nI_clamp (by omega)
  have e3 : zinb (nI (i + 2)) z.2.1 = true := zinb_nI (by omega) hL
  have e4 : (nI (i + 2)).toNatClampNeg = i + 2 := nI_clamp (by omega)
  have o0 := hM.q.1
  simp only [e151_691, e151_692, e151_693, e151_694, e151_695, e151_696, e151_697, e151_698, e151_700, e151_701, e151_702, e151_703, e151_704, e151_705, e151_706, e151_707, e151_710, e151_711, e151_712, zpush, zopt_some, ↓reduceIte, List.getElem?_cons_succ, List.getElem?_cons_zero, beq_self_eq_true, true_and, and_true, Bool.true_and, Bool.and_true, Bool.false_and, Bool.and_false, nI_1, not_true_eq_false, not_false_eq_true, vp_narI, nI_2, e1, e2, e3, e4, D0]
  refine c_D_put hC (fun h1 F1 C1 => ?_)
  have M1 : zMM h1 M := hM.fr (fun j a b => F1.2 j (by omega))
  have o1 := M1.q.1
  simp only [e151_715, e151_716, e151_717, e151_718, e151_719, e151_720, e151_721, e151_722, e151_724, e151_725, e151_726, e151_727, e151_728, e151_729, e151_730, e151_731, e151_734, e151_735, e151_736, zpush, zopt_some, ↓reduceIte, List.getElem?_cons_succ, List.getElem?_cons_zero, beq_self_eq_true, true_and, and_true, Bool.true_and, Bool.and_true, Bool.false_and, Bool.and_false, nI_1, not_true_eq_false, not_false_eq_true, vp_narI, nI_2, e1, e2, e3, e4, o1]
  refine c_M_put M1 hl hC.l60 (fun h2 M2 V2 L2 E2 => ?_)
  simp only [e151_739, e151_742, e151_743, zpush, zopt_some, ↓reduceIte, List.getElem?_cons_succ, List.getElem?_cons_zero, beq_self_eq_true, true_and, and_true, Bool.true_and, Bool.and_true, Bool.false_and, Bool.and_false, nI_1, not_true_eq_false, not_false_eq_true, vp_narI, eq_self]
  exact hQ h2 (V2.1.1.trans F1.1) (zJ_g V2 C1 hg (fun k hk => congrFun (V2.k 0 rfl) k) E2 (hH.k (V2.k 2 rfl) (V2.k 3 rfl)) (hS.k (V2.k 4 rfl) (V2.k 5 rfl)) L2)
theorem s_wipe (hJ : zJ h) (hi : i + 2 < z.2.1) (hL : z.2.1 < 2 ^ 31) (hQ : ∀ h' : List zC, h'.length = h.length → zJ h' → Ev 151 842 [zS, .ref 0, .ref 108, .int (nI i)] [] (h', z) Q) : Ev 151 744 [zS, .ref 0, .ref 108, .int (nI i)] [] (h, z) Q := by
  obtain ⟨M, n, H, sv, S, l, hM, hg, hC, hH, hS, hl⟩ := hJ
  have D0 := hC.o
  have e1 : zinb (nI (i + 1)) z.2.1 = true := zinb_nI (by omega) hL
  have e2 : (nI (i + 1)).toNatClampNeg = i + 1 := nI_clamp (by omega)
  have e3 : zinb (nI (i + 2)) z.2.1 = true := zinb_nI (by omega) hL
  have e4 : (nI (i + 2)).toNatClampNeg = i + 2 := nI_clamp (by omega)
  have o0 := hM.q.1
  simp only [e151_744, e151_745, zpush, zopt_some, ↓reduceIte, List.getElem?_cons_succ, List.getElem?_cons_zero, beq_self_eq_true, true_and, and_true, Bool.true_and, Bool.and_true, Bool.false_and, Bool.and_false, nI_1, not_true_eq_false, not_false_eq_true, vp_narI, nI_2, e1, e2, e3, e4, D0]
  refine c_D_wipe hC (fun h1 F1 C1 => ?_)
  have M1 : zMM h1 M := hM.fr (fun j a b => F1.2 j (by omega))
  have o1 := M1.q.1
  simp only [e151_748, e151_749, zpush, zopt_some, ↓reduceIte, List.getElem?_cons_succ, List.getElem?_cons_zero, beq_self_eq_true, true_and, and_true, Bool.true_and, Bool.and_true, Bool.false_and, Bool.and_false, nI_1, not_true_eq_false, not_false_eq_true, vp_narI, nI_2, e1, e2, e3, e4, o1]
  refine c_M_wipe M1 hl (fun h2 M2 V2 L2 => ?_)
  simp only [e151_752, e151_755, e151_756, zpush, zopt_some, ↓reduceIte, List.getElem?_cons_succ, List.getElem?_cons_zero, beq_self_eq_true, true_and, and_true, Bool.true_and, Bool.and_true, Bool.false_and, Bool.and_false, nI_1, not_true_eq_false, not_false_eq_true, vp_narI, eq_self]
  exact hQ h2 (V2.1.1.trans F1.1) (zJ_g V2 C1 hg (fun k hk => congrFun (V2.k 0 rfl) k) (V2.k 14 rfl) (hH.k (V2.k 2 rfl) (V2.k 3 rfl)) (hS.k (V2.k 4 rfl) (V2.k 5 rfl)) L2)
theorem s_fault (hJ : zJ h) (hi : i + 2 < z.2.1) (hL : z.2.1 < 2 ^ 31) (hQ : ∀ h' : List zC, h'.length = h.length → zJ h' → Ev 151 842 [zS, .ref 0, .ref 108, .int (nI i)] [] (h', z) Q) : Ev 151 757 [zS, .ref 0, .ref 108, .int (nI i)] [] (h, z) Q := by
  obtain ⟨M, n, H, sv, S, l, hM, hg, hC, hH, hS, hl⟩ := hJ
  have D0 := hC.o
  have e1 : zinb (nI (i + 1)) z.2.1 = true := zinb_nI (by omega) hL
  have e2 : (nI (i + 1)).toNatClampNeg = i + 1 := nI_clamp (by omega)
  have e3 : zinb (nI (i + 2)) z.2.1 = true := zinb_nI (by omega) hL
  have e4 : (nI (i + 2)).toNatClampNeg = i + 2 := nI_clamp (by omega)
  have o0 := hM.q.1
  simp only [e151_757, e151_758, zpush, zopt_some, ↓reduceIte, List.getElem?_cons_succ, List.getElem?_cons_zero, beq_self_eq_true, true_and, and_true, Bool.true_and, Bool.and_true, Bool.false_and, Bool.and_false, nI_1, not_true_eq_false, not_false_eq_true, vp_narI, nI_2, e1, e2, e3, e4, D0]
  refine c_D_fault hC (fun h1 F1 C1 => ?_)
  have M1 : zMM h1 M := hM.fr (fun j a b => F1.2 j (by omega))
  have o1 := M1.q.1
  simp only [e151_761, e151_762, zpush, zopt_some, ↓reduceIte, List.getElem?_cons_succ, List.getElem?_cons_zero, beq_self_eq_true, true_and, and_true, Bool.true_and, Bool.and_true, Bool.false_and, Bool.and_false, nI_1, not_true_eq_false, not_false_eq_true, vp_narI, nI_2, e1, e2, e3, e4, o1]
  refine c_M_fault M1 hC.l60 hl rfl (fun h2 M2 V2 => ?_)
  simp only [e151_765, e151_768, e151_769, zpush, zopt_some, ↓reduceIte, List.getElem?_cons_succ, List.getElem?_cons_zero, beq_self_eq_true, true_and, and_true, Bool.true_and, Bool.and_true, Bool.false_and, Bool.and_false, nI_1, not_true_eq_false, not_false_eq_true, vp_narI, eq_self]
  exact hQ h2 (V2.1.1.trans F1.1) (zJ_g V2 C1 hg (fun k hk => congrFun (V2.k 0 rfl) k) (V2.k 14 rfl) (hH.k (V2.k 2 rfl) (V2.k 3 rfl)) (hS.k (V2.k 4 rfl) (V2.k 5 rfl)) ((congrFun (V2.k 15 rfl) 0).trans hl))
theorem s_carryOut (hJ : zJ h) (hi : i + 2 < z.2.1) (hL : z.2.1 < 2 ^ 31) (hQ : ∀ h' : List zC, h'.length = h.length → zJ h' → Ev 151 842 [zS, .ref 0, .ref 108, .int (nI i)] [] (h', z) Q) : Ev 151 770 [zS, .ref 0, .ref 108, .int (nI i)] [] (h, z) Q := by
  obtain ⟨M, n, H, sv, S, l, hM, hg, hC, hH, hS, hl⟩ := hJ
  have D0 := hC.o
  have e1 : zinb (nI (i + 1)) z.2.1 = true := zinb_nI (by omega) hL
  have e2 : (nI (i + 1)).toNatClampNeg = i + 1 := nI_clamp (by omega)
  have e3 : zinb (nI (i + 2)) z.2.1 = true := zinb_nI (by omega) hL
  have e4 : (nI (i + 2)).toNatClampNeg = i + 2 := nI_clamp (by omega)
  have o0 := hM.q.1
  simp only [e151_770, e151_771, zpush, zopt_some, ↓reduceIte, List.getElem?_cons_succ, List.getElem?_cons_zero, beq_self_eq_true, true_and, and_true, Bool.true_and, Bool.and_true, Bool.false_and, Bool.and_false, nI_1, not_true_eq_false, not_false_eq_true, vp_narI, nI_2, e1, e2, e3, e4, D0]
  refine c_D_carryOut hg hC (fun h1 F1 C1 => ?_)
  have M1 : zMM h1 M := hM.fr (fun j a b => F1.2 j (by omega))
  have o1 := M1.q.1
  simp only [e151_774, e151_775, zpush, zopt_some, ↓reduceIte, List.getElem?_cons_succ, List.getElem?_cons_zero, beq_self_eq_true, true_and, and_true, Bool.true_and, Bool.and_true, Bool.false_and, Bool.and_false, nI_1, not_true_eq_false, not_false_eq_true, vp_narI, nI_2, e1, e2, e3, e4, o1]
  refine c_M_carryOut M1 hg hC.l60 hl rfl hH (fun h2 M2 V2 E2 L2 H2 => ?_)
  simp only [e151_778, e151_781, e151_782, zpush, zopt_some, ↓reduceIte, List.getElem?_cons_succ, List.getElem?_cons_zero, beq_self_eq_true, true_and, and_true, Bool.true_and, Bool.and_true, Bool.false_and, Bool.and_false, nI_1, not_true_eq_false, not_false_eq_true, vp_narI, eq_self]
  exact hQ h2 (V2.1.1.trans F1.1) (zJ_g V2 C1 (zG_cryA hg) (fun k _ => by rw [E2]) (V2.k 14 rfl) H2 (hS.k (V2.k 4 rfl) (V2.k 5 rfl)) L2)
theorem s_undo (hJ : zJ h) (hi : i + 2 < z.2.1) (hL : z.2.1 < 2 ^ 31) (hQ : ∀ h' : List zC, h'.length = h.length → zJ h' → Ev 151 842 [zS, .ref 0, .ref 108, .int (nI i)] [] (h', z) Q) : Ev 151 783 [zS, .ref 0, .ref 108, .int (nI i)] [] (h, z) Q := by
  obtain ⟨M, n, H, sv, S, l, hM, hg, hC, hH, hS, hl⟩ := hJ
  have D0 := hC.o
  have e1 : zinb (nI (i + 1)) z.2.1 = true := zinb_nI (by omega) hL
  have e2 : (nI (i + 1)).toNatClampNeg = i + 1 := nI_clamp (by omega)
  have e3 : zinb (nI (i + 2)) z.2.1 = true := zinb_nI (by omega) hL
  have e4 : (nI (i + 2)).toNatClampNeg = i + 2 := nI_clamp (by omega)
  have o0 := hM.q.1
  simp only [e151_783, e151_784, zpush, zopt_some, ↓reduceIte, List.getElem?_cons_succ, List.getElem?_cons_zero, beq_self_eq_true, true_and, and_true, Bool.true_and, Bool.and_true, Bool.false_and, Bool.and_false, nI_1, not_true_eq_false, not_false_eq_true, vp_narI, nI_2, e1, e2, e3, e4, D0]
  refine c_D_undo hg hC (fun hn => ?_) (fun hn h1 F1 hg' C1 => ?_)
  · have o1 := o0
    simp only [e151_787, e151_788, zpush, zopt_some, ↓reduceIte, List.getElem?_cons_succ, List.getElem?_cons_zero, beq_self_eq_true, true_and, and_true, Bool.true_and, Bool.and_true, Bool.false_and, Bool.and_false, nI_1, not_true_eq_false, not_false_eq_true, vp_narI, nI_2, e1, e2, e3, e4, o1]
    refine c_M_undo hM hH (fun _ => ?_) (fun hn2 => absurd hn (by omega))
    simp only [e151_791, e151_794, e151_795, zpush, zopt_some, ↓reduceIte, List.getElem?_cons_succ, List.getElem?_cons_zero, beq_self_eq_true, true_and, and_true, Bool.true_and, Bool.and_true, Bool.false_and, Bool.and_false, nI_1, not_true_eq_false, not_false_eq_true, vp_narI, eq_self]
    exact hQ h rfl ⟨M, n, H, sv, S, l, hM, hg, hC, hH, hS, hl⟩
  · have M1 : zMM h1 M := hM.fr (fun j a b => F1.2 j (by omega))
    have o1 := M1.q.1
    simp only [e151_787, e151_788, zpush, zopt_some, ↓reduceIte, List.getElem?_cons_succ, List.getElem?_cons_zero, beq_self_eq_true, true_and, and_true, Bool.true_and, Bool.and_true, Bool.false_and, Bool.and_false, nI_1, not_true_eq_false, not_false_eq_true, vp_narI, nI_2, e1, e2, e3, e4, o1]
    refine c_M_undo M1 hH (fun hn2 => absurd hn (by omega)) (fun _ h2 M2 V2 H2 E2 => ?_)
    simp only [e151_791, e151_794, e151_795, zpush, zopt_some, ↓reduceIte, List.getElem?_cons_succ, List.getElem?_cons_zero, beq_self_eq_true, true_and, and_true, Bool.true_and, Bool.and_true, Bool.false_and, Bool.and_false, nI_1, not_true_eq_false, not_false_eq_true, vp_narI, eq_self]
    exact hQ h2 (V2.1.1.trans F1.1) (zJ_g V2 C1 hg' E2 (V2.k 14 rfl) H2 (hS.k (V2.k 4 rfl) (V2.k 5 rfl)) ((congrFun (V2.k 15 rfl) 0).trans hl))
theorem s_save (hJ : zJ h) (hi : i + 2 < z.2.1) (hL : z.2.1 < 2 ^ 31) (hQ : ∀ h' : List zC, h'.length = h.length → zJ h' → Ev 151 842 [zS, .ref 0, .ref 108, .int (nI i)] [] (h', z) Q) : Ev 151 796 [zS, .ref 0, .ref 108, .int (nI i)] [] (h, z) Q := by
  obtain ⟨M, n, H, sv, S, l, hM, hg, hC, hH, hS, hl⟩ := hJ
  have D0 := hC.o
  have e1 : zinb (nI (i + 1)) z.2.1 = true := zinb_nI (by omega) hL
  have e2 : (nI (i + 1)).toNatClampNeg = i + 1 := nI_clamp (by omega)
  have e3 : zinb (nI (i + 2)) z.2.1 = true := zinb_nI (by omega) hL
  have e4 : (nI (i + 2)).toNatClampNeg = i + 2 := nI_clamp (by omega)
  have o0 := hM.q.1
  simp only [e151_796, e151_797, e151_798, e151_799, e151_800, e151_801, e151_802, zpush, zopt_some, ↓reduceIte, List.getElem?_cons_succ, List.getElem?_cons_zero, beq_self_eq_true, true_and, and_true, Bool.true_and, Bool.and_true, Bool.false_and, Bool.and_false, nI_1, not_true_eq_false, not_false_eq_true, vp_narI, nI_2, e1, e2, e3, e4, D0]
  refine c_D_save hg hC (fun hz => ?_) (fun hz h1 F1 C1 => ?_)
  · have o1 := o0
    simp only [e151_805, e151_806, e151_807, e151_808, e151_809, e151_810, e151_811, zpush, zopt_some, ↓reduceIte, List.getElem?_cons_succ, List.getElem?_cons_zero, beq_self_eq_true, true_and, and_true, Bool.true_and, Bool.and_true, Bool.false_and, Bool.and_false, nI_1, not_true_eq_false, not_false_eq_true, vp_narI, nI_2, e1, e2, e3, e4, o1]
    refine c_M_save hM hS (fun _ => ?_) (fun hz2 => absurd hz (by rw [hz2]; decide))
    simp only [e151_814, e151_817, e151_818, zpush, zopt_some, ↓reduceIte, List.getElem?_cons_succ, List.getElem?_cons_zero, beq_self_eq_true, true_and, and_true, Bool.true_and, Bool.and_true, Bool.false_and, Bool.and_false, nI_1, not_true_eq_false, not_false_eq_true, vp_narI, eq_self]
    exact hQ h rfl ⟨M, n, H, sv, S, l, hM, hg, hC, hH, hS, hl⟩
  · have M1 : zMM h1 M := hM.fr (fun j a b => F1.2 j (by omega))
    have o1 := M1.q.1
    simp only [e151_805, e151_806, e151_807, e151_808, e151_809, e151_810, e151_811, zpush, zopt_some, ↓reduceIte, List.getElem?_cons_succ, List.getElem?_cons_zero, beq_self_eq_true, true_and, and_true, Bool.true_and, Bool.and_true, Bool.false_and, Bool.and_false, nI_1, not_true_eq_false, not_false_eq_true, vp_narI, nI_2, e1, e2, e3, e4, o1]
    refine c_M_save M1 hS (fun hz2 => absurd hz (by rw [hz2]; decide)) (fun _ h2 M2 V2 S2 => ?_)
    simp only [e151_814, e151_817, e151_818, zpush, zopt_some, ↓reduceIte, List.getElem?_cons_succ, List.getElem?_cons_zero, beq_self_eq_true, true_and, and_true, Bool.true_and, Bool.and_true, Bool.false_and, Bool.and_false, nI_1, not_true_eq_false, not_false_eq_true, vp_narI, eq_self]
    exact hQ h2 (V2.1.1.trans F1.1) (zJ_g V2 C1 hg (fun k hk => congrFun (V2.k 0 rfl) k) (V2.k 14 rfl) (hH.k (V2.k 2 rfl) (V2.k 3 rfl)) S2 ((congrFun (V2.k 15 rfl) 0).trans hl))
theorem s_restore (hJ : zJ h) (hi : i + 2 < z.2.1) (hL : z.2.1 < 2 ^ 31) (hQ : ∀ h' : List zC, h'.length = h.length → zJ h' → Ev 151 842 [zS, .ref 0, .ref 108, .int (nI i)] [] (h', z) Q) : Ev 151 819 [zS, .ref 0, .ref 108, .int (nI i)] [] (h, z) Q := by
  obtain ⟨M, n, H, sv, S, l, hM, hg, hC, hH, hS, hl⟩ := hJ
  have D0 := hC.o
  have e1 : zinb (nI (i + 1)) z.2.1 = true := zinb_nI (by omega) hL
  have e2 : (nI (i + 1)).toNatClampNeg = i + 1 := nI_clamp (by omega)
  have e3 : zinb (nI (i + 2)) z.2.1 = true := zinb_nI (by omega) hL
  have e4 : (nI (i + 2)).toNatClampNeg = i + 2 := nI_clamp (by omega)
  have o0 := hM.q.1
  simp only [e151_819, e151_820, e151_821, e151_822, e151_823, e151_824, e151_825, zpush, zopt_some, ↓reduceIte, List.getElem?_cons_succ, List.getElem?_cons_zero, beq_self_eq_true, true_and, and_true, Bool.true_and, Bool.and_true, Bool.false_and, Bool.and_false, nI_1, not_true_eq_false, not_false_eq_true, vp_narI, nI_2, e1, e2, e3, e4, D0]
  refine c_D_restore hg hC (fun hz => ?_) (fun hz h0 => ?_) (fun hz h1' hg' h1 F1 C1 => ?_)
  · have o1 := o0
    simp only [e151_828, e151_829, e151_830, e151_831, e151_832, e151_833, e151_834, zpush, zopt_some, ↓reduceIte, List.getElem?_cons_succ, List.getElem?_cons_zero, beq_self_eq_true, true_and, and_true, Bool.true_and, Bool.and_true, Bool.false_and, Bool.and_false, nI_1, not_true_eq_false, not_false_eq_true, vp_narI, nI_2, e1, e2, e3, e4, o1]
    refine c_M_restore hM hH hS (fun _ => ?_) (fun hz2 _ => absurd hz (by rw [hz2]; decide)) (fun hz2 _ => absurd hz (by rw [hz2]; decide))
    simp only [e151_837, e151_840, e151_841, zpush, zopt_some, ↓reduceIte, List.getElem?_cons_succ, List.getElem?_cons_zero, beq_self_eq_true, true_and, and_true, Bool.true_and, Bool.and_true, Bool.false_and, Bool.and_false, nI_1, not_true_eq_false, not_false_eq_true, vp_narI, eq_self]
    exact hQ h rfl ⟨M, n, H, sv, S, l, hM, hg, hC, hH, hS, hl⟩
  · have o1 := o0
    simp only [e151_828, e151_829, e151_830, e151_831, e151_832, e151_833, e151_834, zpush, zopt_some, ↓reduceIte, List.getElem?_cons_succ, List.getElem?_cons_zero, beq_self_eq_true, true_and, and_true, Bool.true_and, Bool.and_true, Bool.false_and, Bool.and_false, nI_1, not_true_eq_false, not_false_eq_true, vp_narI, nI_2, e1, e2, e3, e4, o1]
    refine c_M_restore hM hH hS (fun hz2 => absurd hz (by rw [hz2]; decide)) (fun _ _ => ?_) (fun _ hs2 => absurd (h0.symm.trans hs2) (by decide))
    simp only [e151_837, e151_840, e151_841, zpush, zopt_some, ↓reduceIte, List.getElem?_cons_succ, List.getElem?_cons_zero, beq_self_eq_true, true_and, and_true, Bool.true_and, Bool.and_true, Bool.false_and, Bool.and_false, nI_1, not_true_eq_false, not_false_eq_true, vp_narI, eq_self]
    exact hQ h rfl ⟨M, n, H, sv, S, l, hM, hg, hC, hH, hS, hl⟩
  · have M1 : zMM h1 M := hM.fr (fun j a b => F1.2 j (by omega))
    have o1 := M1.q.1
    simp only [e151_828, e151_829, e151_830, e151_831, e151_832, e151_833, e151_834, zpush, zopt_some, ↓reduceIte, List.getElem?_cons_succ, List.getElem?_cons_zero, beq_self_eq_true, true_and, and_true, Bool.true_and, Bool.and_true, Bool.false_and, Bool.and_false, nI_1, not_true_eq_false, not_false_eq_true, vp_narI, nI_2, e1, e2, e3, e4, o1]
    refine c_M_restore M1 hH hS (fun hz2 => absurd hz (by rw [hz2]; decide)) (fun _ hs2 => absurd (h1'.symm.trans hs2) (by decide)) (fun _ _ h2 M2 V2 E2 H2 => ?_)
    simp only [e151_837, e151_840, e151_841, zpush, zopt_some, ↓reduceIte, List.getElem?_cons_succ, List.getElem?_cons_zero, beq_self_eq_true, true_and, and_true, Bool.true_and, Bool.and_true, Bool.false_and, Bool.and_false, nI_1, not_true_eq_false, not_false_eq_true, vp_narI, eq_self]
    have hr : ¬ S (z.2.2 (i + 1)).toNatClampNeg 3 < 0 := by rw [hg'.2.2.2.1.1]; exact nI_pos (by have := hg'.2.2.2.1.2; omega)
    unfold recN recH at H2
    rw [if_neg hr, if_neg hr] at H2
    exact hQ h2 (V2.1.1.trans F1.1) (zJ_g V2 C1 hg' E2 (V2.k 14 rfl) H2 (hS.k (V2.k 4 rfl) (V2.k 5 rfl)) ((congrFun (V2.k 15 rfl) 0).trans hl))
end ZC
end
