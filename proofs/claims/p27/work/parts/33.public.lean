/-! the public changes of the class -/
section
set_option maxRecDepth 100000
section ZC
variable {h : List zC} {z : Nat × (Nat × (Nat → Int32))} {a : Nat → Int32} {Q : Option Value → zX → Prop} {n l : Nat} {H S : Nat → Nat → Int32} {sv f : Nat → Int32}
theorem c_D_set {s v : Int32} (hg : zG a) (hK : zCl h a n H sv S l f) (hQ : ∀ h' : List zC, zFr (fun j => j < 108) h h' → zCl h' (chS a s v).2 (recN (chS a s v).1 n) (recH (chS a s v).1 n H a) sv S l f → Q (some (.int (chS a s v).1)) (h', z)) :
    Ev 30 0 [.ref 0, .int s, .int v] [] (h, z) Q := by
  obtain ⟨⟨P, T, hK⟩, hH, hL, hP⟩ := hK
  have D0 : h[0]? = some (zob 5 [.ref 1, .ref 10, .ref 75, .ref 76, .ref 77, .ref 80, .ref P, .ref T]) := hK.1.2.1
  obtain ⟨o, ⟨x0, -⟩, -⟩ := id hH
  simp only [e30_0, e30_1, e30_4, e30_5, e30_8, e30_11, e30_12, e30_13, e30_14, e30_15, e30_18, e30_21, zgF, zgA, zgR, zisO, zpush, zopt_some, ↓reduceIte, List.getElem?_cons_succ, List.getElem?_cons_zero, beq_self_eq_true, true_and, and_true, Bool.true_and, Bool.and_true, Bool.false_and, Bool.and_false, nI_1, not_true_eq_false, not_false_eq_true, vp_narI, D0, x0]
  refine c_H_draft hg hK.1.2.2.1 hH (fun h1 F1 H1 => ?_)
  have K1 := hK.fr (h' := h1) (fun j hj => F1.2 j (by unfold zWr at hj; omega))
  have L1 := hL.fr (h' := h1) (fun j hj => F1.2 j (by omega))
  have P1 := hP.fr (h' := h1) (fun j h1 h2 => F1.2 j (by omega))
  have D1 : h1[0]? = some (zob 5 [.ref 1, .ref 10, .ref 75, .ref 76, .ref 77, .ref 80, .ref P, .ref T]) := K1.1.2.1
  simp only [e30_0, e30_1, e30_4, e30_5, e30_8, e30_11, e30_12, e30_13, e30_14, e30_15, e30_18, e30_21, zgF, zgA, zgR, zisO, zpush, zopt_some, ↓reduceIte, List.getElem?_cons_succ, List.getElem?_cons_zero, beq_self_eq_true, true_and, and_true, Bool.true_and, Bool.and_true, Bool.false_and, Bool.and_false, nI_1, not_true_eq_false, not_false_eq_true, vp_narI, D1]
  refine c_D_changeSetting hg K1 (fun h2 P' T' F2 K2 => ?_)
  have H2 := H1.fr (h' := h2) (fun j h1 h2 => F2.2 j (by unfold zWr; omega))
  have L2 := L1.fr (h' := h2) (fun j hj => F2.2 j (by unfold zWr; omega))
  have P2 := P1.fr (h' := h2) (fun j h1 h2 => F2.2 j (by unfold zWr; omega))
  have D2 : h2[0]? = some (zob 5 [.ref 1, .ref 10, .ref 75, .ref 76, .ref 77, .ref 80, .ref P', .ref T']) := K2.1.2.1
  simp only [e30_0, e30_1, e30_4, e30_5, e30_8, e30_11, e30_12, e30_13, e30_14, e30_15, e30_18, e30_21, zgF, zgA, zgR, zisO, zpush, zopt_some, ↓reduceIte, List.getElem?_cons_succ, List.getElem?_cons_zero, beq_self_eq_true, true_and, and_true, Bool.true_and, Bool.and_true, Bool.false_and, Bool.and_false, nI_1, not_true_eq_false, not_false_eq_true, vp_narI, D2]
  refine c_D_recorded hg K2.1.2.1 H2 (fun h3 F3 H3 => ?_)
  simp only [e30_0, e30_1, e30_4, e30_5, e30_8, e30_11, e30_12, e30_13, e30_14, e30_15, e30_18, e30_21, zgF, zgA, zgR, zisO, zpush, zopt_some, ↓reduceIte, List.getElem?_cons_succ, List.getElem?_cons_zero, beq_self_eq_true, true_and, and_true, Bool.true_and, Bool.and_true, Bool.false_and, Bool.and_false, nI_1, not_true_eq_false, not_false_eq_true, vp_narI]
  exact hQ h3 (((F1.mono (fun j hj => by omega)).tr (F2.mono (fun j hj => by unfold zWr at hj; omega))).tr (F3.mono (fun j hj => by omega))) ⟨⟨P', T', K2.fr (fun j hj => F3.2 j (by unfold zWr at hj; omega))⟩, H3, L2.fr (fun j hj => F3.2 j (by omega)), P2.fr (fun j h1 h2 => F3.2 j (by omega))⟩
theorem c_D_server {s v : Int32} (hg : zG a) (hK : zCl h a n H sv S l f) (hQ : ∀ h' : List zC, zFr (fun j => j < 108) h h' → zCl h' (chB a s v).2 (recN (chB a s v).1 n) (recH (chB a s v).1 n H a) sv S l f → Q (some (.int (chB a s v).1)) (h', z)) :
    Ev 31 0 [.ref 0, .int s, .int v] [] (h, z) Q := by
  obtain ⟨⟨P, T, hK⟩, hH, hL, hP⟩ := hK
  have D0 : h[0]? = some (zob 5 [.ref 1, .ref 10, .ref 75, .ref 76, .ref 77, .ref 80, .ref P, .ref T]) := hK.1.2.1
  obtain ⟨o, ⟨x0, -⟩, -⟩ := id hH
  simp only [e31_0, e31_1, e31_4, e31_5, e31_8, e31_11, e31_12, e31_13, e31_14, e31_15, e31_18, e31_21, zgF, zgA, zgR, zisO, zpush, zopt_some, ↓reduceIte, List.getElem?_cons_succ, List.getElem?_cons_zero, beq_self_eq_true, true_and, and_true, Bool.true_and, Bool.and_true, Bool.false_and, Bool.and_false, nI_1, not_true_eq_false, not_false_eq_true, vp_narI, D0, x0]
  refine c_H_draft hg hK.1.2.2.1 hH (fun h1 F1 H1 => ?_)
  have K1 := hK.fr (h' := h1) (fun j hj => F1.2 j (by unfold zWr at hj; omega))
  have L1 := hL.fr (h' := h1) (fun j hj => F1.2 j (by omega))
  have P1 := hP.fr (h' := h1) (fun j h1 h2 => F1.2 j (by omega))
  have D1 : h1[0]? = some (zob 5 [.ref 1, .ref 10, .ref 75, .ref 76, .ref 77, .ref 80, .ref P, .ref T]) := K1.1.2.1
  simp only [e31_0, e31_1, e31_4, e31_5, e31_8, e31_11, e31_12, e31_13, e31_14, e31_15, e31_18, e31_21, zgF, zgA, zgR, zisO, zpush, zopt_some, ↓reduceIte, List.getElem?_cons_succ, List.getElem?_cons_zero, beq_self_eq_true, true_and, and_true, Bool.true_and, Bool.and_true, Bool.false_and, Bool.and_false, nI_1, not_true_eq_false, not_false_eq_true, vp_narI, D1]
  refine c_D_buildServer hg K1 (fun h2 P' T' F2 K2 => ?_)
  have H2 := H1.fr (h' := h2) (fun j h1 h2 => F2.2 j (by unfold zWr; omega))
  have L2 := L1.fr (h' := h2) (fun j hj => F2.2 j (by unfold zWr; omega))
  have P2 := P1.fr (h' := h2) (fun j h1 h2 => F2.2 j (by unfold zWr; omega))
  have D2 : h2[0]? = some (zob 5 [.ref 1, .ref 10, .ref 75, .ref 76, .ref 77, .ref 80, .ref P', .ref T']) := K2.1.2.1
  simp only [e31_0, e31_1, e31_4, e31_5, e31_8, e31_11, e31_12, e31_13, e31_14, e31_15, e31_18, e31_21, zgF, zgA, zgR, zisO, zpush, zopt_some, ↓reduceIte, List.getElem?_cons_succ, List.getElem?_cons_zero, beq_self_eq_true, true_and, and_true, Bool.true_and, Bool.and_true, Bool.false_and, Bool.and_false, nI_1, not_true_eq_false, not_false_eq_true, vp_narI, D2]
  refine c_D_recorded hg K2.1.2.1 H2 (fun h3 F3 H3 => ?_)
  simp only [e31_0, e31_1, e31_4, e31_5, e31_8, e31_11, e31_12, e31_13, e31_14, e31_15, e31_18, e31_21, zgF, zgA, zgR, zisO, zpush, zopt_some, ↓reduceIte, List.getElem?_cons_succ, List.getElem?_cons_zero, beq_self_eq_true, true_and, and_true, Bool.true_and, Bool.and_true, Bool.false_and, Bool.and_false, nI_1, not_true_eq_false, not_false_eq_true, vp_narI]
  exact hQ h3 (((F1.mono (fun j hj => by omega)).tr (F2.mono (fun j hj => by unfold zWr at hj; omega))).tr (F3.mono (fun j hj => by omega))) ⟨⟨P', T', K2.fr (fun j hj => F3.2 j (by unfold zWr at hj; omega))⟩, H3, L2.fr (fun j hj => F3.2 j (by omega)), P2.fr (fun j h1 h2 => F3.2 j (by omega))⟩
theorem c_D_weigh {s v : Int32} (hg : zG a) (hK : zCl h a n H sv S l f) (hQ : ∀ h' : List zC, zFr (fun j => j < 108) h h' → zCl h' (chW a s v).2 (recN (chW a s v).1 n) (recH (chW a s v).1 n H a) sv S l f → Q (some (.int (chW a s v).1)) (h', z)) :
    Ev 32 0 [.ref 0, .int s, .int v] [] (h, z) Q := by
  obtain ⟨⟨P, T, hK⟩, hH, hL, hP⟩ := hK
  have D0 : h[0]? = some (zob 5 [.ref 1, .ref 10, .ref 75, .ref 76, .ref 77, .ref 80, .ref P, .ref T]) := hK.1.2.1
  obtain ⟨o, ⟨x0, -⟩, -⟩ := id hH
  simp only [e32_0, e32_1, e32_4, e32_5, e32_8, e32_11, e32_12, e32_13, e32_14, e32_15, e32_18, e32_21, zgF, zgA, zgR, zisO, zpush, zopt_some, ↓reduceIte, List.getElem?_cons_succ, List.getElem?_cons_zero, beq_self_eq_true, true_and, and_true, Bool.true_and, Bool.and_true, Bool.false_and, Bool.and_false, nI_1, not_true_eq_false, not_false_eq_true, vp_narI, D0, x0]
  refine c_H_draft hg hK.1.2.2.1 hH (fun h1 F1 H1 => ?_)
  have K1 := hK.fr (h' := h1) (fun j hj => F1.2 j (by unfold zWr at hj; omega))
  have L1 := hL.fr (h' := h1) (fun j hj => F1.2 j (by omega))
  have P1 := hP.fr (h' := h1) (fun j h1 h2 => F1.2 j (by omega))
  have D1 : h1[0]? = some (zob 5 [.ref 1, .ref 10, .ref 75, .ref 76, .ref 77, .ref 80, .ref P, .ref T]) := K1.1.2.1
  simp only [e32_0, e32_1, e32_4, e32_5, e32_8, e32_11, e32_12, e32_13, e32_14, e32_15, e32_18, e32_21, zgF, zgA, zgR, zisO, zpush, zopt_some, ↓reduceIte, List.getElem?_cons_succ, List.getElem?_cons_zero, beq_self_eq_true, true_and, and_true, Bool.true_and, Bool.and_true, Bool.false_and, Bool.and_false, nI_1, not_true_eq_false, not_false_eq_true, vp_narI, D1]
  refine c_D_changeWeight hg K1 (fun h2 P' T' F2 K2 => ?_)
  have H2 := H1.fr (h' := h2) (fun j h1 h2 => F2.2 j (by unfold zWr; omega))
  have L2 := L1.fr (h' := h2) (fun j hj => F2.2 j (by unfold zWr; omega))
  have P2 := P1.fr (h' := h2) (fun j h1 h2 => F2.2 j (by unfold zWr; omega))
  have D2 : h2[0]? = some (zob 5 [.ref 1, .ref 10, .ref 75, .ref 76, .ref 77, .ref 80, .ref P', .ref T']) := K2.1.2.1
  simp only [e32_0, e32_1, e32_4, e32_5, e32_8, e32_11, e32_12, e32_13, e32_14, e32_15, e32_18, e32_21, zgF, zgA, zgR, zisO, zpush, zopt_some, ↓reduceIte, List.getElem?_cons_succ, List.getElem?_cons_zero, beq_self_eq_true, true_and, and_true, Bool.true_and, Bool.and_true, Bool.false_and, Bool.and_false, nI_1, not_true_eq_false, not_false_eq_true, vp_narI, D2]
  refine c_D_recorded hg K2.1.2.1 H2 (fun h3 F3 H3 => ?_)
  simp only [e32_0, e32_1, e32_4, e32_5, e32_8, e32_11, e32_12, e32_13, e32_14, e32_15, e32_18, e32_21, zgF, zgA, zgR, zisO, zpush, zopt_some, ↓reduceIte, List.getElem?_cons_succ, List.getElem?_cons_zero, beq_self_eq_true, true_and, and_true, Bool.true_and, Bool.and_true, Bool.false_and, Bool.and_false, nI_1, not_true_eq_false, not_false_eq_true, vp_narI]
  exact hQ h3 (((F1.mono (fun j hj => by omega)).tr (F2.mono (fun j hj => by unfold zWr at hj; omega))).tr (F3.mono (fun j hj => by omega))) ⟨⟨P', T', K2.fr (fun j hj => F3.2 j (by unfold zWr at hj; omega))⟩, H3, L2.fr (fun j hj => F3.2 j (by omega)), P2.fr (fun j h1 h2 => F3.2 j (by omega))⟩
theorem c_D_toRack {s v : Int32} (hg : zG a) (hK : zCl h a n H sv S l f) (hQ : ∀ h' : List zC, zFr (fun j => j < 108) h h' → zCl h' (chR a s v).2 (recN (chR a s v).1 n) (recH (chR a s v).1 n H a) sv S l f → Q (some (.int (chR a s v).1)) (h', z)) :
    Ev 33 0 [.ref 0, .int s, .int v] [] (h, z) Q := by
  obtain ⟨⟨P, T, hK⟩, hH, hL, hP⟩ := hK
  have D0 : h[0]? = some (zob 5 [.ref 1, .ref 10, .ref 75, .ref 76, .ref 77, .ref 80, .ref P, .ref T]) := hK.1.2.1
  obtain ⟨o, ⟨x0, -⟩, -⟩ := id hH
  simp only [e33_0, e33_1, e33_4, e33_5, e33_8, e33_11, e33_12, e33_13, e33_14, e33_15, e33_18, e33_21, zgF, zgA, zgR, zisO, zpush, zopt_some, ↓reduceIte, List.getElem?_cons_succ, List.getElem?_cons_zero, beq_self_eq_true, true_and, and_true, Bool.true_and, Bool.and_true, Bool.false_and, Bool.and_false, nI_1, not_true_eq_false, not_false_eq_true, vp_narI, D0, x0]
  refine c_H_draft hg hK.1.2.2.1 hH (fun h1 F1 H1 => ?_)
  have K1 := hK.fr (h' := h1) (fun j hj => F1.2 j (by unfold zWr at hj; omega))
  have L1 := hL.fr (h' := h1) (fun j hj => F1.2 j (by omega))
  have P1 := hP.fr (h' := h1) (fun j h1 h2 => F1.2 j (by omega))
  have D1 : h1[0]? = some (zob 5 [.ref 1, .ref 10, .ref 75, .ref 76, .ref 77, .ref 80, .ref P, .ref T]) := K1.1.2.1
  simp only [e33_0, e33_1, e33_4, e33_5, e33_8, e33_11, e33_12, e33_13, e33_14, e33_15, e33_18, e33_21, zgF, zgA, zgR, zisO, zpush, zopt_some, ↓reduceIte, List.getElem?_cons_succ, List.getElem?_cons_zero, beq_self_eq_true, true_and, and_true, Bool.true_and, Bool.and_true, Bool.false_and, Bool.and_false, nI_1, not_true_eq_false, not_false_eq_true, vp_narI, D1]
  refine c_D_changeRack hg K1 (fun h2 P' T' F2 K2 => ?_)
  have H2 := H1.fr (h' := h2) (fun j h1 h2 => F2.2 j (by unfold zWr; omega))
  have L2 := L1.fr (h' := h2) (fun j hj => F2.2 j (by unfold zWr; omega))
  have P2 := P1.fr (h' := h2) (fun j h1 h2 => F2.2 j (by unfold zWr; omega))
  have D2 : h2[0]? = some (zob 5 [.ref 1, .ref 10, .ref 75, .ref 76, .ref 77, .ref 80, .ref P', .ref T']) := K2.1.2.1
  simp only [e33_0, e33_1, e33_4, e33_5, e33_8, e33_11, e33_12, e33_13, e33_14, e33_15, e33_18, e33_21, zgF, zgA, zgR, zisO, zpush, zopt_some, ↓reduceIte, List.getElem?_cons_succ, List.getElem?_cons_zero, beq_self_eq_true, true_and, and_true, Bool.true_and, Bool.and_true, Bool.false_and, Bool.and_false, nI_1, not_true_eq_false, not_false_eq_true, vp_narI, D2]
  refine c_D_recorded hg K2.1.2.1 H2 (fun h3 F3 H3 => ?_)
  simp only [e33_0, e33_1, e33_4, e33_5, e33_8, e33_11, e33_12, e33_13, e33_14, e33_15, e33_18, e33_21, zgF, zgA, zgR, zisO, zpush, zopt_some, ↓reduceIte, List.getElem?_cons_succ, List.getElem?_cons_zero, beq_self_eq_true, true_and, and_true, Bool.true_and, Bool.and_true, Bool.false_and, Bool.and_false, nI_1, not_true_eq_false, not_false_eq_true, vp_narI]
  exact hQ h3 (((F1.mono (fun j hj => by omega)).tr (F2.mono (fun j hj => by unfold zWr at hj; omega))).tr (F3.mono (fun j hj => by omega))) ⟨⟨P', T', K2.fr (fun j hj => F3.2 j (by unfold zWr at hj; omega))⟩, H3, L2.fr (fun j hj => F3.2 j (by omega)), P2.fr (fun j h1 h2 => F3.2 j (by omega))⟩
theorem c_D_down {s v : Int32} (hg : zG a) (hd : v = 0 ∨ v = 1) (hK : zCl h a n H sv S l f) (hQ : ∀ h' : List zC, zFr (fun j => j < 108) h h' → zCl h' (chD a s v).2 (recN (chD a s v).1 n) (recH (chD a s v).1 n H a) sv S l f → Q (some (.int (chD a s v).1)) (h', z)) :
    Ev 34 0 [.ref 0, .int s, .int v] [] (h, z) Q := by
  obtain ⟨⟨P, T, hK⟩, hH, hL, hP⟩ := hK
  have D0 : h[0]? = some (zob 5 [.ref 1, .ref 10, .ref 75, .ref 76, .ref 77, .ref 80, .ref P, .ref T]) := hK.1.2.1
  obtain ⟨o, ⟨x0, -⟩, -⟩ := id hH
  simp only [e34_0, e34_1, e34_4, e34_5, e34_8, e34_11, e34_12, e34_13, e34_14, e34_15, e34_18, e34_21, zgF, zgA, zgR, zisO, zpush, zopt_some, ↓reduceIte, List.getElem?_cons_succ, List.getElem?_cons_zero, beq_self_eq_true, true_and, and_true, Bool.true_and, Bool.and_true, Bool.false_and, Bool.and_false, nI_1, not_true_eq_false, not_false_eq_true, vp_narI, D0, x0]
  refine c_H_draft hg hK.1.2.2.1 hH (fun h1 F1 H1 => ?_)
  have K1 := hK.fr (h' := h1) (fun j hj => F1.2 j (by unfold zWr at hj; omega))
  have L1 := hL.fr (h' := h1) (fun j hj => F1.2 j (by omega))
  have P1 := hP.fr (h' := h1) (fun j h1 h2 => F1.2 j (by omega))
  have D1 : h1[0]? = some (zob 5 [.ref 1, .ref 10, .ref 75, .ref 76, .ref 77, .ref 80, .ref P, .ref T]) := K1.1.2.1
  simp only [e34_0, e34_1, e34_4, e34_5, e34_8, e34_11, e34_12, e34_13, e34_14, e34_15, e34_18, e34_21, zgF, zgA, zgR, zisO, zpush, zopt_some, ↓reduceIte, List.getElem?_cons_succ, List.getElem?_cons_zero, beq_self_eq_true, true_and, and_true, Bool.true_and, Bool.and_true, Bool.false_and, Bool.and_false, nI_1, not_true_eq_false, not_false_eq_true, vp_narI, D1]
  refine c_D_changeDown hg hd K1 (fun h2 P' T' F2 K2 => ?_)
  have H2 := H1.fr (h' := h2) (fun j h1 h2 => F2.2 j (by unfold zWr; omega))
  have L2 := L1.fr (h' := h2) (fun j hj => F2.2 j (by unfold zWr; omega))
  have P2 := P1.fr (h' := h2) (fun j h1 h2 => F2.2 j (by unfold zWr; omega))
  have D2 : h2[0]? = some (zob 5 [.ref 1, .ref 10, .ref 75, .ref 76, .ref 77, .ref 80, .ref P', .ref T']) := K2.1.2.1
  simp only [e34_0, e34_1, e34_4, e34_5, e34_8, e34_11, e34_12, e34_13, e34_14, e34_15, e34_18, e34_21, zgF, zgA, zgR, zisO, zpush, zopt_some, ↓reduceIte, List.getElem?_cons_succ, List.getElem?_cons_zero, beq_self_eq_true, true_and, and_true, Bool.true_and, Bool.and_true, Bool.false_and, Bool.and_false, nI_1, not_true_eq_false, not_false_eq_true, vp_narI, D2]
  refine c_D_recorded hg K2.1.2.1 H2 (fun h3 F3 H3 => ?_)
  simp only [e34_0, e34_1, e34_4, e34_5, e34_8, e34_11, e34_12, e34_13, e34_14, e34_15, e34_18, e34_21, zgF, zgA, zgR, zisO, zpush, zopt_some, ↓reduceIte, List.getElem?_cons_succ, List.getElem?_cons_zero, beq_self_eq_true, true_and, and_true, Bool.true_and, Bool.and_true, Bool.false_and, Bool.and_false, nI_1, not_true_eq_false, not_false_eq_true, vp_narI]
  exact hQ h3 (((F1.mono (fun j hj => by omega)).tr (F2.mono (fun j hj => by unfold zWr at hj; omega))).tr (F3.mono (fun j hj => by omega))) ⟨⟨P', T', K2.fr (fun j hj => F3.2 j (by unfold zWr at hj; omega))⟩, H3, L2.fr (fun j hj => F3.2 j (by omega)), P2.fr (fun j h1 h2 => F3.2 j (by omega))⟩
theorem c_D_store {s : Int32} (hg : zG a) (hK : zCl h a n H sv S l f) (hQ : ∀ h' : List zC, zFr (fun j => j < 108) h h' → zCl h' (chK a s).2 (recN (chK a s).1 n) (recH (chK a s).1 n H a) sv S l f → Q (some (.int (chK a s).1)) (h', z)) :
    Ev 35 0 [.ref 0, .int s] [] (h, z) Q := by
  obtain ⟨⟨P, T, hK⟩, hH, hL, hP⟩ := hK
  have D0 : h[0]? = some (zob 5 [.ref 1, .ref 10, .ref 75, .ref 76, .ref 77, .ref 80, .ref P, .ref T]) := hK.1.2.1
  obtain ⟨o, ⟨x0, -⟩, -⟩ := id hH
  simp only [e35_0, e35_1, e35_4, e35_5, e35_8, e35_11, e35_12, e35_13, e35_14, e35_17, e35_20, zgF, zgA, zgR, zisO, zpush, zopt_some, ↓reduceIte, List.getElem?_cons_succ, List.getElem?_cons_zero, beq_self_eq_true, true_and, and_true, Bool.true_and, Bool.and_true, Bool.false_and, Bool.and_false, nI_1, not_true_eq_false, not_false_eq_true, vp_narI, D0, x0]
  refine c_H_draft hg hK.1.2.2.1 hH (fun h1 F1 H1 => ?_)
  have K1 := hK.fr (h' := h1) (fun j hj => F1.2 j (by unfold zWr at hj; omega))
  have L1 := hL.fr (h' := h1) (fun j hj => F1.2 j (by omega))
  have P1 := hP.fr (h' := h1) (fun j h1 h2 => F1.2 j (by omega))
  have D1 : h1[0]? = some (zob 5 [.ref 1, .ref 10, .ref 75, .ref 76, .ref 77, .ref 80, .ref P, .ref T]) := K1.1.2.1
  simp only [e35_0, e35_1, e35_4, e35_5, e35_8, e35_11, e35_12, e35_13, e35_14, e35_17, e35_20, zgF, zgA, zgR, zisO, zpush, zopt_some, ↓reduceIte, List.getElem?_cons_succ, List.getElem?_cons_zero, beq_self_eq_true, true_and, and_true, Bool.true_and, Bool.and_true, Bool.false_and, Bool.and_false, nI_1, not_true_eq_false, not_false_eq_true, vp_narI, D1]
  refine c_D_keepObject hg K1 (fun h2 P' T' F2 K2 => ?_)
  have H2 := H1.fr (h' := h2) (fun j h1 h2 => F2.2 j (by unfold zWr; omega))
  have L2 := L1.fr (h' := h2) (fun j hj => F2.2 j (by unfold zWr; omega))
  have P2 := P1.fr (h' := h2) (fun j h1 h2 => F2.2 j (by unfold zWr; omega))
  have D2 : h2[0]? = some (zob 5 [.ref 1, .ref 10, .ref 75, .ref 76, .ref 77, .ref 80, .ref P', .ref T']) := K2.1.2.1
  simp only [e35_0, e35_1, e35_4, e35_5, e35_8, e35_11, e35_12, e35_13, e35_14, e35_17, e35_20, zgF, zgA, zgR, zisO, zpush, zopt_some, ↓reduceIte, List.getElem?_cons_succ, List.getElem?_cons_zero, beq_self_eq_true, true_and, and_true, Bool.true_and, Bool.and_true, Bool.false_and, Bool.and_false, nI_1, not_true_eq_false, not_false_eq_true, vp_narI, D2]
  refine c_D_recorded hg K2.1.2.1 H2 (fun h3 F3 H3 => ?_)
  simp only [e35_0, e35_1, e35_4, e35_5, e35_8, e35_11, e35_12, e35_13, e35_14, e35_17, e35_20, zgF, zgA, zgR, zisO, zpush, zopt_some, ↓reduceIte, List.getElem?_cons_succ, List.getElem?_cons_zero, beq_self_eq_true, true_and, and_true, Bool.true_and, Bool.and_true, Bool.false_and, Bool.and_false, nI_1, not_true_eq_false, not_false_eq_true, vp_narI]
  exact hQ h3 (((F1.mono (fun j hj => by omega)).tr (F2.mono (fun j hj => by unfold zWr at hj; omega))).tr (F3.mono (fun j hj => by omega))) ⟨⟨P', T', K2.fr (fun j hj => F3.2 j (by unfold zWr at hj; omega))⟩, H3, L2.fr (fun j hj => F3.2 j (by omega)), P2.fr (fun j h1 h2 => F3.2 j (by omega))⟩
theorem c_D_pin {s v : Int32} (hg : zG a) (hK : zCl h a n H sv S l f) (hQ : ∀ h' : List zC, zFr (fun j => j < 108) h h' → zCl h' (chP a s v).2 (recN (chP a s v).1 n) (recH (chP a s v).1 n H a) sv S l f → Q (some (.int (chP a s v).1)) (h', z)) :
    Ev 36 0 [.ref 0, .int s, .int v] [] (h, z) Q := by
  obtain ⟨⟨P, T, hK⟩, hH, hL, hP⟩ := hK
  have D0 : h[0]? = some (zob 5 [.ref 1, .ref 10, .ref 75, .ref 76, .ref 77, .ref 80, .ref P, .ref T]) := hK.1.2.1
  obtain ⟨o, ⟨x0, -⟩, -⟩ := id hH
  simp only [e36_0, e36_1, e36_4, e36_5, e36_8, e36_11, e36_12, e36_13, e36_14, e36_15, e36_18, e36_21, zgF, zgA, zgR, zisO, zpush, zopt_some, ↓reduceIte, List.getElem?_cons_succ, List.getElem?_cons_zero, beq_self_eq_true, true_and, and_true, Bool.true_and, Bool.and_true, Bool.false_and, Bool.and_false, nI_1, not_true_eq_false, not_false_eq_true, vp_narI, D0, x0]
  refine c_H_draft hg hK.1.2.2.1 hH (fun h1 F1 H1 => ?_)
  have K1 := hK.fr (h' := h1) (fun j hj => F1.2 j (by unfold zWr at hj; omega))
  have L1 := hL.fr (h' := h1) (fun j hj => F1.2 j (by omega))
  have P1 := hP.fr (h' := h1) (fun j h1 h2 => F1.2 j (by omega))
  have D1 : h1[0]? = some (zob 5 [.ref 1, .ref 10, .ref 75, .ref 76, .ref 77, .ref 80, .ref P, .ref T]) := K1.1.2.1
  simp only [e36_0, e36_1, e36_4, e36_5, e36_8, e36_11, e36_12, e36_13, e36_14, e36_15, e36_18, e36_21, zgF, zgA, zgR, zisO, zpush, zopt_some, ↓reduceIte, List.getElem?_cons_succ, List.getElem?_cons_zero, beq_self_eq_true, true_and, and_true, Bool.true_and, Bool.and_true, Bool.false_and, Bool.and_false, nI_1, not_true_eq_false, not_false_eq_true, vp_narI, D1]
  refine c_D_changePin hg K1 (fun h2 P' T' F2 K2 => ?_)
  have H2 := H1.fr (h' := h2) (fun j h1 h2 => F2.2 j (by unfold zWr; omega))
  have L2 := L1.fr (h' := h2) (fun j hj => F2.2 j (by unfold zWr; omega))
  have P2 := P1.fr (h' := h2) (fun j h1 h2 => F2.2 j (by unfold zWr; omega))
  have D2 : h2[0]? = some (zob 5 [.ref 1, .ref 10, .ref 75, .ref 76, .ref 77, .ref 80, .ref P', .ref T']) := K2.1.2.1
  simp only [e36_0, e36_1, e36_4, e36_5, e36_8, e36_11, e36_12, e36_13, e36_14, e36_15, e36_18, e36_21, zgF, zgA, zgR, zisO, zpush, zopt_some, ↓reduceIte, List.getElem?_cons_succ, List.getElem?_cons_zero, beq_self_eq_true, true_and, and_true, Bool.true_and, Bool.and_true, Bool.false_and, Bool.and_false, nI_1, not_true_eq_false, not_false_eq_true, vp_narI, D2]
  refine c_D_recorded hg K2.1.2.1 H2 (fun h3 F3 H3 => ?_)
  simp only [e36_0, e36_1, e36_4, e36_5, e36_8, e36_11, e36_12, e36_13, e36_14, e36_15, e36_18, e36_21, zgF, zgA, zgR, zisO, zpush, zopt_some, ↓reduceIte, List.getElem?_cons_succ, List.getElem?_cons_zero, beq_self_eq_true, true_and, and_true, Bool.true_and, Bool.and_true, Bool.false_and, Bool.and_false, nI_1, not_true_eq_false, not_false_eq_true, vp_narI]
  exact hQ h3 (((F1.mono (fun j hj => by omega)).tr (F2.mono (fun j hj => by unfold zWr at hj; omega))).tr (F3.mono (fun j hj => by omega))) ⟨⟨P', T', K2.fr (fun j hj => F3.2 j (by unfold zWr at hj; omega))⟩, H3, L2.fr (fun j hj => F3.2 j (by omega)), P2.fr (fun j h1 h2 => F3.2 j (by omega))⟩
end ZC
end
