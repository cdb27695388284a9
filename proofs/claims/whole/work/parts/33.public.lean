/-! the public changes of the class -/
section
set_option maxRecDepth 100000
section ZC
variable {h : List zC} {z : Nat × (Nat × (Nat → Int32))} {a : Nat → Int32} {Q : Option Value → zX → Prop} {n l : Nat} {H S : Nat → Nat → Int32} {sv f : Nat → Int32}
theorem c_D_set {s v : Int32} (hg : zG a) (hK : zCl h a n H sv S l f) (hQ : ∀ h' : List zC, zFr (fun j => j < 108) h h' → zCl h' (chS a s v).2 (recN (chS a s v).1 n) (recH (chS a s v).1 n H a) sv S l f → Q (some (.int (chS a s v).1)) (h', z)) :
    Ev 40 0 [.ref 0, .int s, .int v] [] (h, z) Q := by
  obtain ⟨⟨P, T, hK⟩, hH, hL, hP⟩ := hK
  have D0 : h[0]? = some (zob 5 [.ref 1, .ref 10, .ref 75, .ref 76, .ref 77, .ref 80, .ref P, .ref T]) := hK.1.2.1
  obtain ⟨o, ⟨x0, -⟩, -⟩ := id hH
  simp only [e40_0, e40_1, e40_4, e40_5, e40_8, e40_11, e40_12, e40_13, e40_14, e40_15, e40_18, e40_21, zgF, zgA, zgR, zisO, zpush, zopt_some, ↓reduceIte, List.getElem?_cons_succ, List.getElem?_cons_zero, beq_self_eq_true, true_and, and_true, Bool.true_and, Bool.and_true, Bool.false_and, Bool.and_false, nI_1, not_true_eq_false, not_false_eq_true, vp_narI, D0, x0]
  refine c_H_draft hg hK.1.2.2.1 hH (fun h1 F1 H1 => ?_)
  have K1 := hK.fr (h' := h1) (fun j hj => F1.2 j (by unfold zWr at hj; omega))
  have L1 := hL.fr (h' := h1) (fun j hj => F1.2 j (by omega))
  have P1 := hP.fr (h' := h1) (fun j h1 h2 => F1.2 j (by omega))
  have D1 : h1[0]? = some (zob 5 [.ref 1, .ref 10, .ref 75, .ref 76, .ref 77, .ref 80, .ref P, .ref T]) := K1.1.2.1
  simp only [e40_0, e40_1, e40_4, e40_5, e40_8, e40_11, e40_12, e40_13, e40_14, e40_15, e40_18, e40_21, zgF, zgA, zgR, zisO, zpush, zopt_some, ↓reduceIte, List.getElem?_cons_succ, List.getElem?_cons_zero, beq_self_eq_true, true_and, and_true, Bool.true_and, Bool.and_true, Bool.false_and, Bool.and_false, nI_1, not_true_eq_false, not_false_eq_true, vp_narI, D1]
  refine c_D_changeSetting hg K1 (fun h2 P' T' F2 K2 => ?_)
  have H2 := H1.fr (h' := h2) (fun j h1 h2 => F2.2 j (by unfold zWr; omega))
  have L2 := L1.fr (h' := h2) (fun j hj => F2.2 j (by unfold zWr; omega))
  have P2 := P1.fr (h' := h2) (fun j h1 h2 => F2.2 j (by unfold zWr; omega))
  have D2 : h2[0]? = some (zob 5 [.ref 1, .ref 10, .ref 75, .ref 76, .ref 77, .ref 80, .ref P', .ref T']) := K2.1.2.1
  simp only [e40_0, e40_1, e40_4, e40_5, e40_8, e40_11, e40_12, e40_13, e40_14, e40_15, e40_18, e40_21, zgF, zgA, zgR, zisO, zpush, zopt_some, ↓reduceIte, List.getElem?_cons_succ, List.getElem?_cons_zero, beq_self_eq_true, true_and, and_true, Bool.true_and, Bool.and_true, Bool.false_and, Bool.and_false, nI_1, not_true_eq_false, not_false_eq_true, vp_narI, D2]
  refine c_D_recorded hg K2.1.2.1 H2 (fun h3 F3 H3 => ?_)
  simp only [e40_0, e40_1, e40_4, e40_5, e40_8, e40_11, e40_12, e40_13, e40_14, e40_15, e40_18, e40_21, zgF, zgA, zgR, zisO, zpush, zopt_some, ↓reduceIte, List.getElem?_cons_succ, List.getElem?_cons_zero, beq_self_eq_true, true_and, and_true, Bool.true_and, Bool.and_true, Bool.false_and, Bool.and_false, nI_1, not_true_eq_false, not_false_eq_true, vp_narI]
  exact hQ h3 (((F1.mono (fun j hj => by omega)).tr (F2.mono (fun j hj => by unfold zWr at hj; omega))).tr (F3.mono (fun j hj => by omega))) ⟨⟨P', T', K2.fr (fun j hj => F3.2 j (by unfold zWr at hj; omega))⟩, H3, L2.fr (fun j hj => F3.2 j (by omega)), P2.fr (fun j h1 h2 => F3.2 j (by omega))⟩
theorem c_D_server {s v : Int32} (hg : zG a) (hK : zCl h a n H sv S l f) (hQ : ∀ h' : List zC, zFr (fun j => j < 108) h h' → zCl h' (chB a s v).2 (recN (chB a s v).1 n) (recH (chB a s v).1 n H a) sv S l f → Q (some (.int (chB a s v).1)) (h', z)) :
    Ev 41 0 [.ref 0, .int s, .int v] [] (h, z) Q := by
  obtain ⟨⟨P, T, hK⟩, hH, hL, hP⟩ := hK
  have D0 : h[0]? = some (zob 5 [.ref 1, .ref 10, .ref 75, .ref 76, .ref 77, .ref 80, .ref P, .ref T]) := hK.1.2.1
  obtain ⟨o, ⟨x0, -⟩, -⟩ := id hH
  simp only [e41_0, e41_1, e41_4, e41_5, e41_8, e41_11, e41_12, e41_13, e41_14, e41_15, e41_18, e41_21, zgF, zgA, zgR, zisO, zpush, zopt_some, ↓reduceIte, List.getElem?_cons_succ, List.getElem?_cons_zero, beq_self_eq_true, true_and, and_true, Bool.true_and, Bool.and_true, Bool.false_and, Bool.and_false, nI_1, not_true_eq_false, not_false_eq_true, vp_narI, D0, x0]
  refine c_H_draft hg hK.1.2.2.1 hH (fun h1 F1 H1 => ?_)
  have K1 := hK.fr (h' := h1) (fun j hj => F1.2 j (by unfold zWr at hj; omega))
  have L1 := hL.fr (h' := h1) (fun j hj => F1.2 j (by omega))
  have P1 := hP.fr (h' := h1) (fun j h1 h2 => F1.2 j (by omega))
  have D1 : h1[0]? = some (zob 5 [.ref 1, .ref 10, .ref 75, .ref 76, .ref 77, .ref 80, .ref P, .ref T]) := K1.1.2.1
  simp only [e41_0, e41_1, e41_4, e41_5, e41_8, e41_11, e41_12, e41_13, e41_14, e41_15, e41_18, e41_21, zgF, zgA, zgR, zisO, zpush, zopt_some, ↓reduceIte, List.getElem?_cons_succ, List.getElem?_cons_zero, beq_self_eq_true, true_and, and_true, Bool.true_and, Bool.and_true, Bool.false_and, Bool.and_false, nI_1, not_true_eq_false, not_false_eq_true, vp_narI, D1]
  refine c_D_buildServer hg K1 (fun h2 P' T' F2 K2 => ?_)
  have H2 := H1.fr (h' := h2) (fun j h1 h2 => F2.2 j (by unfold zWr; omega))
  have L2 := L1.fr (h' := h2) (fun j hj => F2.2 j (by unfold zWr; omega))
  have P2 := P1.fr (h' := h2) (fun j h1 h2 => F2.2 j (by unfold zWr; omega))
  have D2 : h2[0]? = some (zob 5 [.ref 1, .ref 10, .ref 75, .ref 76, .ref 77, .ref 80, .ref P', .ref T']) := K2.1.2.1
  simp only [e41_0, e41_1, e41_4, e41_5, e41_8, e41_11, e41_12, e41_13, e41_14, e41_15, e41_18, e41_21, zgF, zgA, zgR, zisO, zpush, zopt_some, ↓reduceIte, List.getElem?_cons_succ, List.getElem?_cons_zero, beq_self_eq_true, true_and, and_true, Bool.true_and, Bool.and_true, Bool.false_and, Bool.and_false, nI_1, not_true_eq_false, not_false_eq_true, vp_narI, D2]
  refine c_D_recorded hg K2.1.2.1 H2 (fun h3 F3 H3 => ?_)
  simp only [e41_0, e41_1, e41_4, e41_5, e41_8, e41_11, e41_12, e41_13, e41_14, e41_15, e41_18, e41_21, zgF, zgA, zgR, zisO, zpush, zopt_some, ↓reduceIte, List.getElem?_cons_succ, List.getElem?_cons_zero, beq_self_eq_true, true_and, and_true, Bool.true_and, Bool.and_true, Bool.false_and, Bool.and_false, nI_1, not_true_eq_false, not_false_eq_true, vp_narI]
  exact hQ h3 (((F1.mono (fun j hj => by omega)).tr (F2.mono (fun j hj => by unfold zWr at hj; omega))).tr (F3.mono (fun j hj => by omega))) ⟨⟨P', T', K2.fr (fun j hj => F3.2 j (by unfold zWr at hj; omega))⟩, H3, L2.fr (fun j hj => F3.2 j (by omega)), P2.fr (fun j h1 h2 => F3.2 j (by omega))⟩
theorem c_D_weigh {s v : Int32} (hg : zG a) (hK : zCl h a n H sv S l f) (hQ : ∀ h' : List zC, zFr (fun j => j < 108) h h' → zCl h' (chW a s v).2 (recN (chW a s v).1 n) (recH (chW a s v).1 n H a) sv S l f → Q (some (.int (chW a s v).1)) (h', z)) :
    Ev 42 0 [.ref 0, .int s, .int v] [] (h, z) Q := by
  obtain ⟨⟨P, T, hK⟩, hH, hL, hP⟩ := hK
  have D0 : h[0]? = some (zob 5 [.ref 1, .ref 10, .ref 75, .ref 76, .ref 77, .ref 80, .ref P, .ref T]) := hK.1.2.1
  obtain ⟨o, ⟨x0, -⟩, -⟩ := id hH
  simp only [e42_0, e42_1, e42_4, e42_5, e42_8, e42_11, e42_12, e42_13, e42_14, e42_15, e42_18, e42_21, zgF, zgA, zgR, zisO, zpush, zopt_some, ↓reduceIte, List.getElem?_cons_succ, List.getElem?_cons_zero, beq_self_eq_true, true_and, and_true, Bool.true_and, Bool.and_true, Bool.false_and, Bool.and_false, nI_1, not_true_eq_false, not_false_eq_true, vp_narI, D0, x0]
  refine c_H_draft hg hK.1.2.2.1 hH (fun h1 F1 H1 => ?_)
  have K1 := hK.fr (h' := h1) (fun j hj => F1.2 j (by unfold zWr at hj; omega))
  have L1 := hL.fr (h' := h1) (fun j hj => F1.2 j (by omega))
  have P1 := hP.fr (h' := h1) (fun j h1 h2 => F1.2 j (by omega))
  have D1 : h1[0]? = some (zob 5 [.ref 1, .ref 10, .ref 75, .ref 76, .ref 77, .ref 80, .ref P, .ref T]) := K1.1.2.1
  simp only [e42_0, e42_1, e42_4, e42_5, e42_8, e42_11, e42_12, e42_13, e42_14, e42_15, e42_18, e42_21, zgF, zgA, zgR, zisO, zpush, zopt_some, ↓reduceIte, List.getElem?_cons_succ, List.getElem?_cons_zero, beq_self_eq_true, true_and, and_true, Bool.true_and, Bool.and_true, Bool.false_and, Bool.and_false, nI_1, not_true_eq_false, not_false_eq_true, vp_narI, D1]
  refine c_D_changeWeight hg K1 (fun h2 P' T' F2 K2 => ?_)
  have H2 := H1.fr (h' := h2) (fun j h1 h2 => F2.2 j (by unfold zWr; omega))
  have L2 := L1.fr (h' := h2) (fun j hj => F2.2 j (by unfold zWr; omega))
  have P2 := P1.fr (h' := h2) (fun j h1 h2 => F2.2 j (by unfold zWr; omega))
  have D2 : h2[0]? = some (zob 5 [.ref 1, .ref 10, .ref 75, .ref 76, .ref 77, .ref 80, .ref P', .ref T']) := K2.1.2.1
  simp only [e42_0, e42_1, e42_4, e42_5, e42_8, e42_11, e42_12, e42_13, e42_14, e42_15, e42_18, e42_21, zgF, zgA, zgR, zisO, zpush, zopt_some, ↓reduceIte, List.getElem?_cons_succ, List.getElem?_cons_zero, beq_self_eq_true, true_and, and_true, Bool.true_and, Bool.and_true, Bool.false_and, Bool.and_false, nI_1, not_true_eq_false, not_false_eq_true, vp_narI, D2]
  refine c_D_recorded hg K2.1.2.1 H2 (fun h3 F3 H3 => ?_)
  simp only [e42_0, e42_1, e42_4, e42_5, e42_8, e42_11, e42_12, e42_13, e42_14, e42_15, e42_18, e42_21, zgF, zgA, zgR, zisO, zpush, zopt_some, ↓reduceIte, List.getElem?_cons_succ, List.getElem?_cons_zero, beq_self_eq_true, true_and, and_true, Bool.true_and, Bool.and_true, Bool.false_and, Bool.and_false, nI_1, not_true_eq_false, not_false_eq_true, vp_narI]
  exact hQ h3 (((F1.mono (fun j hj => by omega)).tr (F2.mono (fun j hj => by unfold zWr at hj; omega))).tr (F3.mono (fun j hj => by omega))) ⟨⟨P', T', K2.fr (fun j hj => F3.2 j (by unfold zWr at hj; omega))⟩, H3, L2.fr (fun j hj => F3.2 j (by omega)), P2.fr (fun j h1 h2 => F3.2 j (by omega))⟩
theorem c_D_toRack {s v : Int32} (hg : zG a) (hK : zCl h a n H sv S l f) (hQ : ∀ h' : List zC, zFr (fun j => j < 108) h h' → zCl h' (chR a s v).2 (recN (chR a s v).1 n) (recH (chR a s v).1 n H a) sv S l f → Q (some (.int (chR a s v).1)) (h', z)) :
    Ev 43 0 [.ref 0, .int s, .int v] [] (h, z) Q := by
  obtain ⟨⟨P, T, hK⟩, hH, hL, hP⟩ := hK
  have D0 : h[0]? = some (zob 5 [.ref 1, .ref 10, .ref 75, .ref 76, .ref 77, .ref 80, .ref P, .ref T]) := hK.1.2.1
  obtain ⟨o, ⟨x0, -⟩, -⟩ := id hH
  simp only [e43_0, e43_1, e43_4, e43_5, e43_8, e43_11, e43_12, e43_13, e43_14, e43_15, e43_18, e43_21, zgF, zgA, zgR, zisO, zpush, zopt_some, ↓reduceIte, List.getElem?_cons_succ, List.getElem?_cons_zero, beq_self_eq_true, true_and, and_true, Bool.true_and, Bool.and_true, Bool.false_and, Bool.and_false, nI_1, not_true_eq_false, not_false_eq_true, vp_narI, D0, x0]
  refine c_H_draft hg hK.1.2.2.1 hH (fun h1 F1 H1 => ?_)
  have K1 := hK.fr (h' := h1) (fun j hj => F1.2 j (by unfold zWr at hj; omega))
  have L1 := hL.fr (h' := h1) (fun j hj => F1.2 j (by omega))
  have P1 := hP.fr (h' := h1) (fun j h1 h2 => F1.2 j (by omega))
  have D1 : h1[0]? = some (zob 5 [.ref 1, .ref 10, .ref 75, .ref 76, .ref 77, .ref 80, .ref P, .ref T]) := K1.1.2.1
  simp only [e43_0, e43_1, e43_4, e43_5, e43_8, e43_11, e43_12, e43_13, e43_14, e43_15, e43_18, e43_21, zgF, zgA, zgR, zisO, zpush, zopt_some, ↓reduceIte, List.getElem?_cons_succ, List.getElem?_cons_zero, beq_self_eq_true, true_and, and_true, Bool.true_and, Bool.and_true, Bool.false_and, Bool.and_false, nI_1, not_true_eq_false, not_false_eq_true, vp_narI, D1]
  refine c_D_changeRack hg K1 (fun h2 P' T' F2 K2 => ?_)
  have H2 := H1.fr (h' := h2) (fun j h1 h2 => F2.2 j (by unfold zWr; omega))
  have L2 := L1.fr (h' := h2) (fun j hj => F2.2 j (by unfold zWr; omega))
  have P2 := P1.fr (h' := h2) (fun j h1 h2 => F2.2 j (by unfold zWr; omega))
  have D2 : h2[0]? = some (zob 5 [.ref 1, .ref 10, .ref 75, .ref 76, .ref 77, .ref 80, .ref P', .ref T']) := K2.1.2.1
  simp only [e43_0, e43_1, e43_4, e43_5, e43_8, e43_11, e43_12, e43_13, e43_14, e43_15, e43_18, e43_21, zgF, zgA, zgR, zisO, zpush, zopt_some, ↓reduceIte, List.getElem?_cons_succ, List.getElem?_cons_zero, beq_self_eq_true, true_and, and_true, Bool.true_and, Bool.and_true, Bool.false_and, Bool.and_false, nI_1, not_true_eq_false, not_false_eq_true, vp_narI, D2]
  refine c_D_recorded hg K2.1.2.1 H2 (fun h3 F3 H3 => ?_)
  simp only [e43_0, e43_1, e43_4, e43_5, e43_8, e43_11, e43_12, e43_13, e43_14, e43_15, e43_18, e43_21, zgF, zgA, zgR, zisO, zpush, zopt_some, ↓reduceIte, List.getElem?_cons_succ, List.getElem?_cons_zero, beq_self_eq_true, true_and, and_true, Bool.true_and, Bool.and_true, Bool.false_and, Bool.and_false, nI_1, not_true_eq_false, not_false_eq_true, vp_narI]
  exact hQ h3 (((F1.mono (fun j hj => by omega)).tr (F2.mono (fun j hj => by unfold zWr at hj; omega))).tr (F3.mono (fun j hj => by omega))) ⟨⟨P', T', K2.fr (fun j hj => F3.2 j (by unfold zWr at hj; omega))⟩, H3, L2.fr (fun j hj => F3.2 j (by omega)), P2.fr (fun j h1 h2 => F3.2 j (by omega))⟩
theorem c_D_down {s v : Int32} (hg : zG a) (hd : v = 0 ∨ v = 1) (hK : zCl h a n H sv S l f) (hQ : ∀ h' : List zC, zFr (fun j => j < 108) h h' → zCl h' (chD a s v).2 (recN (chD a s v).1 n) (recH (chD a s v).1 n H a) sv S l f → Q (some (.int (chD a s v).1)) (h', z)) :
    Ev 44 0 [.ref 0, .int s, .int v] [] (h, z) Q := by
  obtain ⟨⟨P, T, hK⟩, hH, hL, hP⟩ := hK
  have D0 : h[0]? = some (zob 5 [.ref 1, .ref 10, .ref 75, .ref 76, .ref 77, .ref 80, .ref P, .ref T]) := hK.1.2.1
  obtain ⟨o, ⟨x0, -⟩, -⟩ := id hH
  simp only [e44_0, e44_1, e44_4, e44_5, e44_8, e44_11, e44_12, e44_13, e44_14, e44_15, e44_18, e44_21, zgF, zgA, zgR, zisO, zpush, zopt_some, ↓reduceIte, List.getElem?_cons_succ, List.getElem?_cons_zero, beq_self_eq_true, true_and, and_true, Bool.true_and, Bool.and_true, Bool.false_and, Bool.and_false, nI_1, not_true_eq_false, not_false_eq_true, vp_narI, D0, x0]
  refine c_H_draft hg hK.1.2.2.1 hH (fun h1 F1 H1 => ?_)
  have K1 := hK.fr (h' := h1) (fun j hj => F1.2 j (by unfold zWr at hj; omega))
  have L1 := hL.fr (h' := h1) (fun j hj => F1.2 j (by omega))
  have P1 := hP.fr (h' := h1) (fun j h1 h2 => F1.2 j (by omega))
  have D1 : h1[0]? = some (zob 5 [.ref 1, .ref 10, .ref 75, .ref 76, .ref 77, .ref 80, .ref P, .ref T]) := K1.1.2.1
  simp only [e44_0, e44_1, e44_4, e44_5, e44_8, e44_11, e44_12, e44_13, e44_14, e44_15, e44_18, e44_21, zgF, zgA, zgR, zisO, zpush, zopt_some, ↓reduceIte, List.getElem?_cons_succ, List.getElem?_cons_zero, beq_self_eq_true, true_and, and_true, Bool.true_and, Bool.and_true, Bool.false_and, Bool.and_false, nI_1, not_true_eq_false, not_false_eq_true, vp_narI, D1]
  refine c_D_changeDown hg hd K1 (fun h2 P' T' F2 K2 => ?_)
  have H2 := H1.fr (h' := h2) (fun j h1 h2 => F2.2 j (by unfold zWr; omega))
  have L2 := L1.fr (h' := h2) (fun j hj => F2.2 j (by unfold zWr; omega))
  have P2 := P1.fr (h' := h2) (fun j h1 h2 => F2.2 j (by unfold zWr; omega))
  have D2 : h2[0]? = some (zob 5 [.ref 1, .ref 10, .ref 75, .ref 76, .ref 77, .ref 80, .ref P', .ref T']) := K2.1.2.1
  simp only [e44_0, e44_1, e44_4, e44_5, e44_8, e44_11, e44_12, e44_13, e44_14, e44_15, e44_18, e44_21, zgF, zgA, zgR, zisO, zpush, zopt_some, ↓reduceIte, List.getElem?_cons_succ, List.getElem?_cons_zero, beq_self_eq_true, true_and, and_true, Bool.true_and, Bool.and_true, Bool.false_and, Bool.and_false, nI_1, not_true_eq_false, not_false_eq_true, vp_narI, D2]
  refine c_D_recorded hg K2.1.2.1 H2 (fun h3 F3 H3 => ?_)
  simp only [e44_0, e44_1, e44_4, e44_5, e44_8, e44_11, e44_12, e44_13, e44_14, e44_15, e44_18, e44_21, zgF, zgA, zgR, zisO, zpush, zopt_some, ↓reduceIte, List.getElem?_cons_succ, List.getElem?_cons_zero, beq_self_eq_true, true_and, and_true, Bool.true_and, Bool.and_true, Bool.false_and, Bool.and_false, nI_1, not_true_eq_false, not_false_eq_true, vp_narI]
  exact hQ h3 (((F1.mono (fun j hj => by omega)).tr (F2.mono (fun j hj => by unfold zWr at hj; omega))).tr (F3.mono (fun j hj => by omega))) ⟨⟨P', T', K2.fr (fun j hj => F3.2 j (by unfold zWr at hj; omega))⟩, H3, L2.fr (fun j hj => F3.2 j (by omega)), P2.fr (fun j h1 h2 => F3.2 j (by omega))⟩
theorem c_D_store {s : Int32} (hg : zG a) (hK : zCl h a n H sv S l f) (hQ : ∀ h' : List zC, zFr (fun j => j < 108) h h' → zCl h' (chK a s).2 (recN (chK a s).1 n) (recH (chK a s).1 n H a) sv S l f → Q (some (.int (chK a s).1)) (h', z)) :
    Ev 45 0 [.ref 0, .int s] [] (h, z) Q := by
  obtain ⟨⟨P, T, hK⟩, hH, hL, hP⟩ := hK
  have D0 : h[0]? = some (zob 5 [.ref 1, .ref 10, .ref 75, .ref 76, .ref 77, .ref 80, .ref P, .ref T]) := hK.1.2.1
  obtain ⟨o, ⟨x0, -⟩, -⟩ := id hH
  simp only [e45_0, e45_1, e45_4, e45_5, e45_8, e45_11, e45_12, e45_13, e45_14, e45_17, e45_20, zgF, zgA, zgR, zisO, zpush, zopt_some, ↓reduceIte, List.getElem?_cons_succ, List.getElem?_cons_zero, beq_self_eq_true, true_and, and_true, Bool.true_and, Bool.and_true, Bool.false_and, Bool.and_false, nI_1, not_true_eq_false, not_false_eq_true, vp_narI, D0, x0]
  refine c_H_draft hg hK.1.2.2.1 hH (fun h1 F1 H1 => ?_)
  have K1 := hK.fr (h' := h1) (fun j hj => F1.2 j (by unfold zWr at hj; omega))
  have L1 := hL.fr (h' := h1) (fun j hj => F1.2 j (by omega))
  have P1 := hP.fr (h' := h1) (fun j h1 h2 => F1.2 j (by omega))
  have D1 : h1[0]? = some (zob 5 [.ref 1, .ref 10, .ref 75, .ref 76, .ref 77, .ref 80, .ref P, .ref T]) := K1.1.2.1
  simp only [e45_0, e45_1, e45_4, e45_5, e45_8, e45_11, e45_12, e45_13, e45_14, e45_17, e45_20, zgF, zgA, zgR, zisO, zpush, zopt_some, ↓reduceIte, List.getElem?_cons_succ, List.getElem?_cons_zero, beq_self_eq_true, true_and, and_true, Bool.true_and, Bool.and_true, Bool.false_and, Bool.and_false, nI_1, not_true_eq_false, not_false_eq_true, vp_narI, D1]
  refine c_D_keepObject hg K1 (fun h2 P' T' F2 K2 => ?_)
  have H2 := H1.fr (h' := h2) (fun j h1 h2 => F2.2 j (by unfold zWr; omega))
  have L2 := L1.fr (h' := h2) (fun j hj => F2.2 j (by unfold zWr; omega))
  have P2 := P1.fr (h' := h2) (fun j h1 h2 => F2.2 j (by unfold zWr; omega))
  have D2 : h2[0]? = some (zob 5 [.ref 1, .ref 10, .ref 75, .ref 76, .ref 77, .ref 80, .ref P', .ref T']) := K2.1.2.1
  simp only [e45_0, e45_1, e45_4, e45_5, e45_8, e45_11, e45_12, e45_13, e45_14, e45_17, e45_20, zgF, zgA, zgR, zisO, zpush, zopt_some, ↓reduceIte, List.getElem?_cons_succ, List.getElem?_cons_zero, beq_self_eq_true, true_and, and_true, Bool.true_and, Bool.and_true, Bool.false_and, Bool.and_false, nI_1, not_true_eq_false, not_false_eq_true, vp_narI, D2]
  refine c_D_recorded hg K2.1.2.1 H2 (fun h3 F3 H3 => ?_)
  simp only [e45_0, e45_1, e45_4, e45_5, e45_8, e45_11, e45_12, e45_13, e45_14, e45_17, e45_20, zgF, zgA, zgR, zisO, zpush, zopt_some, ↓reduceIte, List.getElem?_cons_succ, List.getElem?_cons_zero, beq_self_eq_true, true_and, and_true, Bool.true_and, Bool.and_true, Bool.false_and, Bool.and_false, nI_1, not_true_eq_false, not_false_eq_true, vp_narI]
  exact hQ h3 (((F1.mono (fun j hj => by omega)).tr (F2.mono (fun j hj => by unfold zWr at hj; omega))).tr (F3.mono (fun j hj => by omega))) ⟨⟨P', T', K2.fr (fun j hj => F3.2 j (by unfold zWr at hj; omega))⟩, H3, L2.fr (fun j hj => F3.2 j (by omega)), P2.fr (fun j h1 h2 => F3.2 j (by omega))⟩
theorem c_D_drop {s : Int32} (hg : zG a) (hK : zCl h a n H sv S l f) (hQ : ∀ h' : List zC, zFr (fun j => j < 108) h h' → zCl h' (chX a s).2 (recN (chX a s).1 n) (recH (chX a s).1 n H a) sv S l f → Q (some (.int (chX a s).1)) (h', z)) :
    Ev 46 0 [.ref 0, .int s] [] (h, z) Q := by
  obtain ⟨⟨P, T, hK⟩, hH, hL, hP⟩ := hK
  have D0 : h[0]? = some (zob 5 [.ref 1, .ref 10, .ref 75, .ref 76, .ref 77, .ref 80, .ref P, .ref T]) := hK.1.2.1
  obtain ⟨o, ⟨x0, -⟩, -⟩ := id hH
  simp only [e46_0, e46_1, e46_4, e46_5, e46_8, e46_11, e46_12, e46_13, e46_14, e46_17, e46_20, zgF, zgA, zgR, zisO, zpush, zopt_some, ↓reduceIte, List.getElem?_cons_succ, List.getElem?_cons_zero, beq_self_eq_true, true_and, and_true, Bool.true_and, Bool.and_true, Bool.false_and, Bool.and_false, nI_1, not_true_eq_false, not_false_eq_true, vp_narI, D0, x0]
  refine c_H_draft hg hK.1.2.2.1 hH (fun h1 F1 H1 => ?_)
  have K1 := hK.fr (h' := h1) (fun j hj => F1.2 j (by unfold zWr at hj; omega))
  have L1 := hL.fr (h' := h1) (fun j hj => F1.2 j (by omega))
  have P1 := hP.fr (h' := h1) (fun j h1 h2 => F1.2 j (by omega))
  have D1 : h1[0]? = some (zob 5 [.ref 1, .ref 10, .ref 75, .ref 76, .ref 77, .ref 80, .ref P, .ref T]) := K1.1.2.1
  simp only [e46_0, e46_1, e46_4, e46_5, e46_8, e46_11, e46_12, e46_13, e46_14, e46_17, e46_20, zgF, zgA, zgR, zisO, zpush, zopt_some, ↓reduceIte, List.getElem?_cons_succ, List.getElem?_cons_zero, beq_self_eq_true, true_and, and_true, Bool.true_and, Bool.and_true, Bool.false_and, Bool.and_false, nI_1, not_true_eq_false, not_false_eq_true, vp_narI, D1]
  refine c_D_dropObject hg K1 (fun h2 P' T' F2 K2 => ?_)
  have H2 := H1.fr (h' := h2) (fun j h1 h2 => F2.2 j (by unfold zWr; omega))
  have L2 := L1.fr (h' := h2) (fun j hj => F2.2 j (by unfold zWr; omega))
  have P2 := P1.fr (h' := h2) (fun j h1 h2 => F2.2 j (by unfold zWr; omega))
  have D2 : h2[0]? = some (zob 5 [.ref 1, .ref 10, .ref 75, .ref 76, .ref 77, .ref 80, .ref P', .ref T']) := K2.1.2.1
  simp only [e46_0, e46_1, e46_4, e46_5, e46_8, e46_11, e46_12, e46_13, e46_14, e46_17, e46_20, zgF, zgA, zgR, zisO, zpush, zopt_some, ↓reduceIte, List.getElem?_cons_succ, List.getElem?_cons_zero, beq_self_eq_true, true_and, and_true, Bool.true_and, Bool.and_true, Bool.false_and, Bool.and_false, nI_1, not_true_eq_false, not_false_eq_true, vp_narI, D2]
  refine c_D_recorded hg K2.1.2.1 H2 (fun h3 F3 H3 => ?_)
  simp only [e46_0, e46_1, e46_4, e46_5, e46_8, e46_11, e46_12, e46_13, e46_14, e46_17, e46_20, zgF, zgA, zgR, zisO, zpush, zopt_some, ↓reduceIte, List.getElem?_cons_succ, List.getElem?_cons_zero, beq_self_eq_true, true_and, and_true, Bool.true_and, Bool.and_true, Bool.false_and, Bool.and_false, nI_1, not_true_eq_false, not_false_eq_true, vp_narI]
  exact hQ h3 (((F1.mono (fun j hj => by omega)).tr (F2.mono (fun j hj => by unfold zWr at hj; omega))).tr (F3.mono (fun j hj => by omega))) ⟨⟨P', T', K2.fr (fun j hj => F3.2 j (by unfold zWr at hj; omega))⟩, H3, L2.fr (fun j hj => F3.2 j (by omega)), P2.fr (fun j h1 h2 => F3.2 j (by omega))⟩
theorem c_D_pin {s v : Int32} (hg : zG a) (hK : zCl h a n H sv S l f) (hQ : ∀ h' : List zC, zFr (fun j => j < 108) h h' → zCl h' (chP a s v).2 (recN (chP a s v).1 n) (recH (chP a s v).1 n H a) sv S l f → Q (some (.int (chP a s v).1)) (h', z)) :
    Ev 47 0 [.ref 0, .int s, .int v] [] (h, z) Q := by
  obtain ⟨⟨P, T, hK⟩, hH, hL, hP⟩ := hK
  have D0 : h[0]? = some (zob 5 [.ref 1, .ref 10, .ref 75, .ref 76, .ref 77, .ref 80, .ref P, .ref T]) := hK.1.2.1
  obtain ⟨o, ⟨x0, -⟩, -⟩ := id hH
  simp only [e47_0, e47_1, e47_4, e47_5, e47_8, e47_11, e47_12, e47_13, e47_14, e47_15, e47_18, e47_21, zgF, zgA, zgR, zisO, zpush, zopt_some, ↓reduceIte, List.getElem?_cons_succ, List.getElem?_cons_zero, beq_self_eq_true, true_and, and_true, Bool.true_and, Bool.and_true, Bool.false_and, Bool.and_false, nI_1, not_true_eq_false, not_false_eq_true, vp_narI, D0, x0]
  refine c_H_draft hg hK.1.2.2.1 hH (fun h1 F1 H1 => ?_)
  have K1 := hK.fr (h' := h1) (fun j hj => F1.2 j (by unfold zWr at hj; omega))
  have L1 := hL.fr (h' := h1) (fun j hj => F1.2 j (by omega))
  have P1 := hP.fr (h' := h1) (fun j h1 h2 => F1.2 j (by omega))
  have D1 : h1[0]? = some (zob 5 [.ref 1, .ref 10, .ref 75, .ref 76, .ref 77, .ref 80, .ref P, .ref T]) := K1.1.2.1
  simp only [e47_0, e47_1, e47_4, e47_5, e47_8, e47_11, e47_12, e47_13, e47_14, e47_15, e47_18, e47_21, zgF, zgA, zgR, zisO, zpush, zopt_some, ↓reduceIte, List.getElem?_cons_succ, List.getElem?_cons_zero, beq_self_eq_true, true_and, and_true, Bool.true_and, Bool.and_true, Bool.false_and, Bool.and_false, nI_1, not_true_eq_false, not_false_eq_true, vp_narI, D1]
  refine c_D_changePin hg K1 (fun h2 P' T' F2 K2 => ?_)
  have H2 := H1.fr (h' := h2) (fun j h1 h2 => F2.2 j (by unfold zWr; omega))
  have L2 := L1.fr (h' := h2) (fun j hj => F2.2 j (by unfold zWr; omega))
  have P2 := P1.fr (h' := h2) (fun j h1 h2 => F2.2 j (by unfold zWr; omega))
  have D2 : h2[0]? = some (zob 5 [.ref 1, .ref 10, .ref 75, .ref 76, .ref 77, .ref 80, .ref P', .ref T']) := K2.1.2.1
  simp only [e47_0, e47_1, e47_4, e47_5, e47_8, e47_11, e47_12, e47_13, e47_14, e47_15, e47_18, e47_21, zgF, zgA, zgR, zisO, zpush, zopt_some, ↓reduceIte, List.getElem?_cons_succ, List.getElem?_cons_zero, beq_self_eq_true, true_and, and_true, Bool.true_and, Bool.and_true, Bool.false_and, Bool.and_false, nI_1, not_true_eq_false, not_false_eq_true, vp_narI, D2]
  refine c_D_recorded hg K2.1.2.1 H2 (fun h3 F3 H3 => ?_)
  simp only [e47_0, e47_1, e47_4, e47_5, e47_8, e47_11, e47_12, e47_13, e47_14, e47_15, e47_18, e47_21, zgF, zgA, zgR, zisO, zpush, zopt_some, ↓reduceIte, List.getElem?_cons_succ, List.getElem?_cons_zero, beq_self_eq_true, true_and, and_true, Bool.true_and, Bool.and_true, Bool.false_and, Bool.and_false, nI_1, not_true_eq_false, not_false_eq_true, vp_narI]
  exact hQ h3 (((F1.mono (fun j hj => by omega)).tr (F2.mono (fun j hj => by unfold zWr at hj; omega))).tr (F3.mono (fun j hj => by omega))) ⟨⟨P', T', K2.fr (fun j hj => F3.2 j (by unfold zWr at hj; omega))⟩, H3, L2.fr (fun j hj => F3.2 j (by omega)), P2.fr (fun j h1 h2 => F3.2 j (by omega))⟩
end ZC
end
