/-! the best weight -/
section
set_option maxRecDepth 100000
def bwS (a : Nat → Int32) (s : Nat) : Nat → Int32 × Int32
  | 0 => (0, 0)
  | k + 1 => if (bwS a s k).1 = 0 ∨ unv (upd a (17 + s) (nI (k + 1))) (gN a 2) < (bwS a s k).2 then (nI (k + 1), unv (upd a (17 + s) (nI (k + 1))) (gN a 2)) else bwS a s k
def qBw (a : Nat → Int32) (s w : Int32) : Int32 := if zinb s (gN a 2) = true then (if w = 0 ∨ w = 1 then (if a (29 + s.toNatClampNeg) = 0 then (if w = 0 then (bwS a s.toNatClampNeg 16).1 else (bwS a s.toNatClampNeg 16).2) else -5) else -2) else -1
theorem upd_upd {f : Nat → Int32} {k : Nat} {x y : Int32} : upd (upd f k x) k y = upd f k y := by
  funext i
  by_cases e : i = k
  · subst e; rw [upd_s, upd_s]
  · rw [upd_n e, upd_n e, upd_n e]
section ZC
variable {h : List zC} {z : Nat × (Nat × (Nat → Int32))} {a b : Nat → Int32} {Q : Option Value → zX → Prop} {P T : Nat}
theorem l_D_bestWeight {s : Nat} {w : Int32} (hg : zG a) (hs : s < gN a 2) (hPT : zPT P T) (hw : w = 0 ∨ w = 1)
    (hQ : ∀ h' : List zC, zFr (fun j => (1 ≤ j ∧ j ≤ 9) ∨ (78 ≤ j ∧ j ≤ 79) ∨ (T ≤ j ∧ j ≤ T + 3)) h h' → zSt h' 1 a → (∃ ln dr, zSw h' ln dr ∧ zCa ln dr) → (∃ cf sf lf t, zLo h' T cf sf lf t) → Q (some (.int (if w = 0 then (bwS a s 16).1 else (bwS a s 16).2))) (h', z)) :
    ∀ (j k : Nat) (h' : List zC) (x : Int32) (v7 : Value), k + j = 16 → zFr (fun j => (1 ≤ j ∧ j ≤ 9) ∨ (78 ≤ j ∧ j ≤ 79) ∨ (T ≤ j ∧ j ≤ T + 3)) h h' → zDo h' P T → zG (upd a (17 + s) x) → zSt h' 1 (upd a (17 + s) x) → (∃ ln dr, zSw h' ln dr ∧ zCa ln dr) → (∃ cf sf lf t, zLo h' T cf sf lf t) →
    Ev 56 59 [.ref 0, .int (nI s), .int w, .int (a (17 + s)), .int (bwS a s k).1, .int (bwS a s k).2, .int (nI (k + 1)), v7] [] (h', z) Q := by
  have pt : (P = 82 ∧ T = 86) ∨ (P = 86 ∧ T = 82) := hPT
  have b2 := hg.2.2.1.2
  have e1 : (nI s).toNatClampNeg = s := nI_clamp (by omega)
  have e2 : zinb (nI s) 12 = true := zinb_nI (by omega) (by decide)
  intro j
  induction j with
  | zero =>
    intro k h' x v7 hk hF hD hgx hS hW hT
    have hk : k = 16 := by omega
    subst hk
    have hD' : h'[0]? = some (zob 5 [.ref 1, .ref 10, .ref 75, .ref 76, .ref 77, .ref 80, .ref P, .ref T]) := hD
    have e0 : (16 : Int32) < nI (16 + 1) := by decide
    obtain ⟨f, hf, -, S1⟩ := hS.weigh hgx (s := s) (v := a (17 + s)) (by omega)
    rw [upd_back] at S1
    have s0 := hS.1
    rw [e56_59]
    simp only [e56_0, e56_1, e56_4, e56_5, e56_8, e56_11, e56_12, e56_13, e56_14, e56_17, e56_18, e56_19, e56_22, e56_24, e56_25, e56_26, e56_29, e56_32, e56_33, e56_34, e56_37, e56_39, e56_40, e56_41, e56_44, e56_47, e56_48, e56_49, e56_50, e56_51, e56_53, e56_54, e56_56, e56_57, e56_61, e56_63, e56_66, e56_67, e56_70, e56_73, e56_74, e56_76, e56_77, e56_78, e56_79, e56_82, e56_85, e56_86, e56_87, e56_90, e56_93, e56_95, e56_97, e56_100, e56_102, e56_104, e56_107, e56_109, e56_111, e56_113, e56_115, e56_118, e56_121, e56_122, e56_125, e56_128, e56_129, e56_130, e56_132, e56_135, e56_137, e56_140, e56_142, zgF, zgA, zgR, zisO, zpush, zopt_some, ↓reduceIte, List.getElem?_cons_succ, List.getElem?_cons_zero, beq_self_eq_true, true_and, and_true, Bool.true_and, Bool.and_true, Bool.false_and, Bool.and_false, nI_1, not_true_eq_false, not_false_eq_true, vp_narI, hD', s0, e0, hf, e1, e2]
    have F1 : zFr (fun j => 1 ≤ j ∧ j ≤ 9) h' (h'.set (1 + 2) (zar .int 12 (upd f s (a (17 + s))))) := zFr.set ⟨by omega, by omega⟩
    generalize h'.set (1 + 2) (zar .int 12 (upd f s (a (17 + s)))) = k1 at S1 F1 ⊢
    have hQ := hQ k1 (hF.tr (F1.mono (fun j h => Or.inl h))) S1 (by obtain ⟨ln, dr, W, C⟩ := hW; exact W.ex C (fun y x1 x2 => F1.2 y (by omega))) (by obtain ⟨c, l, m, t, L⟩ := hT; exact L.ex (fun y x1 x2 => F1.2 y (by omega)))
    rcases hw with rfl | rfl
    · rw [if_pos rfl] at hQ
      simp only [e56_0, e56_1, e56_4, e56_5, e56_8, e56_11, e56_12, e56_13, e56_14, e56_17, e56_18, e56_19, e56_22, e56_24, e56_25, e56_26, e56_29, e56_32, e56_33, e56_34, e56_37, e56_39, e56_40, e56_41, e56_44, e56_47, e56_48, e56_49, e56_50, e56_51, e56_53, e56_54, e56_56, e56_57, e56_61, e56_63, e56_66, e56_67, e56_70, e56_73, e56_74, e56_76, e56_77, e56_78, e56_79, e56_82, e56_85, e56_86, e56_87, e56_90, e56_93, e56_95, e56_97, e56_100, e56_102, e56_104, e56_107, e56_109, e56_111, e56_113, e56_115, e56_118, e56_121, e56_122, e56_125, e56_128, e56_129, e56_130, e56_131, e56_132, e56_135, e56_137, e56_140, e56_142, zgF, zgA, zgR, zisO, zpush, zopt_some, ↓reduceIte, List.getElem?_cons_succ, List.getElem?_cons_zero, beq_self_eq_true, true_and, and_true, Bool.true_and, Bool.and_true, Bool.false_and, Bool.and_false, nI_1, not_true_eq_false, not_false_eq_true, vp_narI]
      exact hQ
    · rw [if_neg (by decide)] at hQ
      simp only [e56_0, e56_1, e56_4, e56_5, e56_8, e56_11, e56_12, e56_13, e56_14, e56_17, e56_18, e56_19, e56_22, e56_24, e56_25, e56_26, e56_29, e56_32, e56_33, e56_34, e56_37, e56_39, e56_40, e56_41, e56_44, e56_47, e56_48, e56_49, e56_50, e56_51, e56_53, e56_54, e56_56, e56_57, e56_61, e56_63, e56_66, e56_67, e56_70, e56_73, e56_74, e56_76, e56_77, e56_78, e56_79, e56_82, e56_85, e56_86, e56_87, e56_90, e56_93, e56_95, e56_97, e56_100, e56_102, e56_104, e56_107, e56_109, e56_111, e56_113, e56_115, e56_118, e56_121, e56_122, e56_125, e56_128, e56_129, e56_130, e56_131, e56_132, e56_135, e56_137, e56_140, e56_142, zgF, zgA, zgR, zisO, zpush, zopt_some, ↓reduceIte, List.getElem?_cons_succ, List.getElem?_cons_zero, beq_self_eq_true, true_and, and_true, Bool.true_and, Bool.and_true, Bool.false_and, Bool.and_false, nI_1, not_true_eq_false, not_false_eq_true, vp_narI, (show ¬ (1 : Int32) = 0 by decide)]
      exact hQ
  | succ j ih =>
    intro k h' x v7 hk hF hD hgx hS hW hT
    have hD' : h'[0]? = some (zob 5 [.ref 1, .ref 10, .ref 75, .ref 76, .ref 77, .ref 80, .ref P, .ref T]) := hD
    have e0 : ¬ (16 : Int32) < nI (k + 1) := nI_nlt (a := 16) (show k + 1 ≤ 16 by omega) (by omega)
    have gb := zG_weigh hg (s := s) (r := k + 1) (by omega) (by omega)
    obtain ⟨f, hf, -, S1⟩ := hS.weigh hgx (s := s) (v := nI (k + 1)) (by omega)
    rw [upd_upd] at S1
    have s0 := hS.1
    rw [e56_59]
    simp only [e56_0, e56_1, e56_4, e56_5, e56_8, e56_11, e56_12, e56_13, e56_14, e56_17, e56_18, e56_19, e56_22, e56_24, e56_25, e56_26, e56_29, e56_32, e56_33, e56_34, e56_37, e56_39, e56_40, e56_41, e56_44, e56_47, e56_48, e56_49, e56_50, e56_51, e56_53, e56_54, e56_56, e56_57, e56_61, e56_63, e56_66, e56_67, e56_70, e56_73, e56_74, e56_76, e56_78, e56_79, e56_82, e56_85, e56_86, e56_87, e56_90, e56_93, e56_95, e56_97, e56_100, e56_102, e56_104, e56_107, e56_109, e56_111, e56_113, e56_115, e56_118, e56_121, e56_122, e56_125, e56_128, e56_129, e56_130, e56_131, e56_132, e56_135, e56_137, e56_140, e56_142, zgF, zgA, zgR, zisO, zpush, zopt_some, ↓reduceIte, List.getElem?_cons_succ, List.getElem?_cons_zero, beq_self_eq_true, true_and, and_true, Bool.true_and, Bool.and_true, Bool.false_and, Bool.and_false, nI_1, not_true_eq_false, not_false_eq_true, vp_narI, hD', s0, e0, hf, e1, e2]
    have F1 : zFr (fun j => 1 ≤ j ∧ j ≤ 9) h' (h'.set (1 + 2) (zar .int 12 (upd f s (nI (k + 1))))) := zFr.set ⟨by omega, by omega⟩
    generalize h'.set (1 + 2) (zar .int 12 (upd f s (nI (k + 1)))) = k1 at S1 F1 ⊢
    have D1 : k1[0]? = some (zob 5 [.ref 1, .ref 10, .ref 75, .ref 76, .ref 77, .ref 80, .ref P, .ref T]) := F1.at hD' (by omega)
    obtain ⟨ln, dr, W, C⟩ := hW
    obtain ⟨cf', sf', lf', t', L⟩ := hT
    simp only [e56_0, e56_1, e56_4, e56_5, e56_8, e56_11, e56_12, e56_13, e56_14, e56_17, e56_18, e56_19, e56_22, e56_24, e56_25, e56_26, e56_29, e56_32, e56_33, e56_34, e56_37, e56_39, e56_40, e56_41, e56_44, e56_47, e56_48, e56_49, e56_50, e56_51, e56_53, e56_54, e56_56, e56_57, e56_61, e56_63, e56_66, e56_67, e56_70, e56_73, e56_74, e56_76, e56_77, e56_78, e56_79, e56_82, e56_85, e56_86, e56_87, e56_90, e56_93, e56_95, e56_97, e56_100, e56_102, e56_104, e56_107, e56_109, e56_111, e56_113, e56_115, e56_118, e56_121, e56_122, e56_125, e56_128, e56_129, e56_130, e56_131, e56_132, e56_135, e56_137, e56_140, e56_142, zgF, zgA, zgR, zisO, zpush, zopt_some, ↓reduceIte, List.getElem?_cons_succ, List.getElem?_cons_zero, beq_self_eq_true, true_and, and_true, Bool.true_and, Bool.and_true, Bool.false_and, Bool.and_false, nI_1, not_true_eq_false, not_false_eq_true, vp_narI, D1]
    refine c_D_layAll gb (by omega) D1 S1 (W.fr (h' := k1) (fun j x y => F1.2 j (by omega))) C (L.fr (h' := k1) (fun j x y => F1.2 j (by omega))) (fun k2 ln2 dr2 F2 W2 C2 L2 => ?_)
    have D2 : k2[0]? = some (zob 5 [.ref 1, .ref 10, .ref 75, .ref 76, .ref 77, .ref 80, .ref P, .ref T]) := F2.at D1 (by omega)
    have S2 := S1.fr (h' := k2) (fun j x y => F2.2 j (by omega))
    obtain ⟨cf2, sf2, lf2, t2, M2, A2⟩ := L2
    have x2 : gN (upd a (17 + s) (nI (k + 1))) 2 = gN a 2 := gN_u (by omega)
    have cu := fun (Q : Option Value → zX → Prop) => c_D_unevenness (z := z) (Q := Q) gb D2 S2 M2 A2.2.2.2 A2.2.2.1
    rw [x2] at cu
    have FF := (hF.tr (F1.mono (T := fun j => (1 ≤ j ∧ j ≤ 9) ∨ (78 ≤ j ∧ j ≤ 79) ∨ (T ≤ j ∧ j ≤ T + 3)) (fun j h => Or.inl h))).tr (F2.mono (T := fun j => (1 ≤ j ∧ j ≤ 9) ∨ (78 ≤ j ∧ j ≤ 79) ∨ (T ≤ j ∧ j ≤ T + 3)) (fun j h => by omega))
    have IH := ih (k + 1) k2 (nI (k + 1)) (.int (unv (upd a (17 + s) (nI (k + 1))) (gN a 2))) (by omega) FF D2 gb S2 ⟨ln2, dr2, W2, C2⟩ ⟨cf2, sf2, lf2, t2, M2⟩
    rw [bwS] at IH
    by_cases h3 : (bwS a s k).1 = 0
    · rw [if_pos (Or.inl h3)] at IH
      simp only [e56_0, e56_1, e56_4, e56_5, e56_8, e56_11, e56_12, e56_13, e56_14, e56_17, e56_18, e56_19, e56_22, e56_24, e56_25, e56_26, e56_29, e56_32, e56_33, e56_34, e56_37, e56_39, e56_40, e56_41, e56_44, e56_47, e56_48, e56_49, e56_50, e56_51, e56_53, e56_54, e56_56, e56_57, e56_61, e56_63, e56_66, e56_67, e56_70, e56_73, e56_74, e56_76, e56_77, e56_78, e56_79, e56_82, e56_85, e56_86, e56_87, e56_90, e56_93, e56_95, e56_97, e56_100, e56_102, e56_104, e56_107, e56_109, e56_111, e56_113, e56_115, e56_118, e56_121, e56_122, e56_125, e56_128, e56_129, e56_130, e56_131, e56_132, e56_135, e56_137, e56_140, e56_142, zgF, zgA, zgR, zisO, zpush, zopt_some, ↓reduceIte, List.getElem?_cons_succ, List.getElem?_cons_zero, beq_self_eq_true, true_and, and_true, Bool.true_and, Bool.and_true, Bool.false_and, Bool.and_false, nI_1, not_true_eq_false, not_false_eq_true, vp_narI, D2, cu, h3]
      exact IH
    · by_cases h4 : unv (upd a (17 + s) (nI (k + 1))) (gN a 2) < (bwS a s k).2
      · rw [if_pos (Or.inr h4)] at IH
        have h5 : ¬ (bwS a s k).2 ≤ unv (upd a (17 + s) (nI (k + 1))) (gN a 2) := Int32.not_le.mpr h4
        simp only [e56_0, e56_1, e56_4, e56_5, e56_8, e56_11, e56_12, e56_13, e56_14, e56_17, e56_18, e56_19, e56_22, e56_24, e56_25, e56_26, e56_29, e56_32, e56_33, e56_34, e56_37, e56_39, e56_40, e56_41, e56_44, e56_47, e56_48, e56_49, e56_50, e56_51, e56_53, e56_54, e56_56, e56_57, e56_61, e56_63, e56_66, e56_67, e56_70, e56_73, e56_74, e56_76, e56_77, e56_78, e56_79, e56_82, e56_85, e56_86, e56_87, e56_90, e56_93, e56_95, e56_97, e56_100, e56_102, e56_104, e56_107, e56_109, e56_111, e56_113, e56_115, e56_118, e56_121, e56_122, e56_125, e56_128, e56_129, e56_130, e56_131, e56_132, e56_135, e56_137, e56_140, e56_142, zgF, zgA, zgR, zisO, zpush, zopt_some, ↓reduceIte, List.getElem?_cons_succ, List.getElem?_cons_zero, beq_self_eq_true, true_and, and_true, Bool.true_and, Bool.and_true, Bool.false_and, Bool.and_false, nI_1, not_true_eq_false, not_false_eq_true, vp_narI, D2, cu, h3, h5]
        exact IH
      · rw [if_neg (fun h => h.elim h3 h4)] at IH
        have h5 : (bwS a s k).2 ≤ unv (upd a (17 + s) (nI (k + 1))) (gN a 2) := Int32.not_lt.mp h4
        simp only [e56_0, e56_1, e56_4, e56_5, e56_8, e56_11, e56_12, e56_13, e56_14, e56_17, e56_18, e56_19, e56_22, e56_24, e56_25, e56_26, e56_29, e56_32, e56_33, e56_34, e56_37, e56_39, e56_40, e56_41, e56_44, e56_47, e56_48, e56_49, e56_50, e56_51, e56_53, e56_54, e56_56, e56_57, e56_61, e56_63, e56_66, e56_67, e56_70, e56_73, e56_74, e56_76, e56_77, e56_78, e56_79, e56_82, e56_85, e56_86, e56_87, e56_90, e56_93, e56_95, e56_97, e56_100, e56_102, e56_104, e56_107, e56_109, e56_111, e56_113, e56_115, e56_118, e56_121, e56_122, e56_125, e56_128, e56_129, e56_130, e56_131, e56_132, e56_135, e56_137, e56_140, e56_142, zgF, zgA, zgR, zisO, zpush, zopt_some, ↓reduceIte, List.getElem?_cons_succ, List.getElem?_cons_zero, beq_self_eq_true, true_and, and_true, Bool.true_and, Bool.and_true, Bool.false_and, Bool.and_false, nI_1, not_true_eq_false, not_false_eq_true, vp_narI, D2, cu, h3, h5]
        exact IH
theorem c_D_bestWeight {s w : Int32} (hg : zG a) (hK : zKo h P T a) (hQ : ∀ h' : List zC, zFr zWr h h' → zKo h' P T a → Q (some (.int (qBw a s w))) (h', z)) : Ev 56 0 [.ref 0, .int s, .int w, zU, zU, zU, zU, zU] [] (h, z) Q := by
  obtain ⟨⟨hPT, hD, hS, hW, hL1, hT⟩, hY⟩ := id hK
  have pt : (P = 82 ∧ T = 86) ∨ (P = 86 ∧ T = 82) := hPT
  have hD' : h[0]? = some (zob 5 [.ref 1, .ref 10, .ref 75, .ref 76, .ref 77, .ref 80, .ref P, .ref T]) := hD
  have s0 := hS.1
  have c1 := fun (s : Int32) (Q : Option Value → zX → Prop) => c_S_hasServer (s := s) (z := z) (Q := Q) hS hg
  have n1 : ¬ (1 : Int32) = 0 := by decide
  have b2 := hg.2.2.1.2
  unfold qBw at hQ
  by_cases hz : zinb s (gN a 2) = true
  · rw [if_pos hz] at hQ
    obtain ⟨j, hj, rfl⟩ := zinb_ex hz (by omega)
    have e1 : (nI j).toNatClampNeg = j := nI_clamp (by omega)
    have e2 : zinb (nI j) 12 = true := zinb_nI (by omega) (by decide)
    rw [e1] at hQ
    by_cases hw : w = 0 ∨ w = 1
    · rw [if_pos hw] at hQ
      obtain ⟨fd, qd, rd⟩ := hS.2.2.2.1
      obtain ⟨fw, qw, rw'⟩ := hS.2.2.1
      have main : a (29 + j) = 0 → Ev 56 40 [.ref 0, .int (nI j), .int w, zU, zU, zU, zU, zU] [] (h, z) Q := by
        intro h0
        rw [if_pos h0] at hQ
        have L := l_D_bestWeight (z := z) (h := h) (P := P) (T := T) (Q := Q) hg hj hPT hw (fun h' F' S' W' T' => hQ h' (F'.mono (fun y hy => by unfold zWr; omega)) ⟨⟨hPT, F'.at hD (by omega), S', W', ?_, T'⟩, hY.fr (fun y x1 x2 => F'.2 y (by omega))⟩) 16 0 h (a (17 + j)) zU (by omega) zFr.rf hD (by rw [show upd a (17 + j) (a (17 + j)) = a from by funext i; by_cases e : i = 17 + j <;> simp [upd, e]]; exact hg) (by rw [show upd a (17 + j) (a (17 + j)) = a from by funext i; by_cases e : i = 17 + j <;> simp [upd, e]]; exact hS) hW hT
        · simp only [e56_0, e56_1, e56_4, e56_5, e56_8, e56_11, e56_12, e56_13, e56_14, e56_17, e56_18, e56_19, e56_22, e56_24, e56_25, e56_26, e56_29, e56_32, e56_33, e56_34, e56_37, e56_39, e56_40, e56_41, e56_44, e56_47, e56_48, e56_49, e56_50, e56_51, e56_53, e56_54, e56_56, e56_57, e56_61, e56_63, e56_66, e56_67, e56_70, e56_73, e56_74, e56_76, e56_77, e56_78, e56_79, e56_82, e56_85, e56_86, e56_87, e56_90, e56_93, e56_95, e56_97, e56_100, e56_102, e56_104, e56_107, e56_109, e56_111, e56_113, e56_115, e56_118, e56_121, e56_122, e56_125, e56_128, e56_129, e56_130, e56_131, e56_132, e56_135, e56_137, e56_140, e56_142, zgF, zgA, zgR, zisO, zpush, zopt_some, ↓reduceIte, List.getElem?_cons_succ, List.getElem?_cons_zero, beq_self_eq_true, true_and, and_true, Bool.true_and, Bool.and_true, Bool.false_and, Bool.and_false, nI_1, not_true_eq_false, not_false_eq_true, vp_narI, hD', s0, qw, e1, e2, rw' j hj]
          exact L
        · obtain ⟨c, l, m, t, L⟩ := hL1
          exact L.ex (fun y x1 x2 => F'.2 y (by omega))
      have bad : ¬ a (29 + j) = 0 → Q (some (.int (-5))) (h, z) := by
        intro h0
        rw [if_neg h0] at hQ
        exact hQ h zFr.rf hK
      by_cases h0 : a (29 + j) = 0
      · have main := main h0
        rcases hw with rfl | rfl
        · simp only [e56_0, e56_1, e56_4, e56_5, e56_8, e56_11, e56_12, e56_13, e56_14, e56_17, e56_18, e56_19, e56_22, e56_24, e56_25, e56_26, e56_29, e56_32, e56_33, e56_34, e56_37, e56_39, e56_41, e56_44, e56_47, e56_48, e56_49, e56_50, e56_51, e56_53, e56_54, e56_56, e56_57, e56_59, e56_61, e56_63, e56_66, e56_67, e56_70, e56_73, e56_74, e56_76, e56_77, e56_78, e56_79, e56_82, e56_85, e56_86, e56_87, e56_90, e56_93, e56_95, e56_97, e56_100, e56_102, e56_104, e56_107, e56_109, e56_111, e56_113, e56_115, e56_118, e56_121, e56_122, e56_125, e56_128, e56_129, e56_130, e56_131, e56_132, e56_135, e56_137, e56_140, e56_142, zgF, zgA, zgR, zisO, zpush, zopt_some, ↓reduceIte, List.getElem?_cons_succ, List.getElem?_cons_zero, beq_self_eq_true, true_and, and_true, Bool.true_and, Bool.and_true, Bool.false_and, Bool.and_false, nI_1, not_true_eq_false, not_false_eq_true, vp_narI, hD', s0, c1, hz, zb_t, n1, qd, e1, e2, rd j hj, h0]
          exact main
        · simp only [e56_0, e56_1, e56_4, e56_5, e56_8, e56_11, e56_12, e56_13, e56_14, e56_17, e56_18, e56_19, e56_22, e56_24, e56_25, e56_26, e56_29, e56_32, e56_33, e56_34, e56_37, e56_39, e56_41, e56_44, e56_47, e56_48, e56_49, e56_50, e56_51, e56_53, e56_54, e56_56, e56_57, e56_59, e56_61, e56_63, e56_66, e56_67, e56_70, e56_73, e56_74, e56_76, e56_77, e56_78, e56_79, e56_82, e56_85, e56_86, e56_87, e56_90, e56_93, e56_95, e56_97, e56_100, e56_102, e56_104, e56_107, e56_109, e56_111, e56_113, e56_115, e56_118, e56_121, e56_122, e56_125, e56_128, e56_129, e56_130, e56_131, e56_132, e56_135, e56_137, e56_140, e56_142, zgF, zgA, zgR, zisO, zpush, zopt_some, ↓reduceIte, List.getElem?_cons_succ, List.getElem?_cons_zero, beq_self_eq_true, true_and, and_true, Bool.true_and, Bool.and_true, Bool.false_and, Bool.and_false, nI_1, not_true_eq_false, not_false_eq_true, vp_narI, hD', s0, c1, hz, zb_t, n1, qd, e1, e2, rd j hj, h0]
          exact main
      · have bad := bad h0
        rcases hw with rfl | rfl
        · simp only [e56_0, e56_1, e56_4, e56_5, e56_8, e56_11, e56_12, e56_13, e56_14, e56_17, e56_18, e56_19, e56_22, e56_24, e56_25, e56_26, e56_29, e56_32, e56_33, e56_34, e56_37, e56_39, e56_41, e56_44, e56_47, e56_48, e56_49, e56_50, e56_51, e56_53, e56_54, e56_56, e56_57, e56_59, e56_61, e56_63, e56_66, e56_67, e56_70, e56_73, e56_74, e56_76, e56_77, e56_78, e56_79, e56_82, e56_85, e56_86, e56_87, e56_90, e56_93, e56_95, e56_97, e56_100, e56_102, e56_104, e56_107, e56_109, e56_111, e56_113, e56_115, e56_118, e56_121, e56_122, e56_125, e56_128, e56_129, e56_130, e56_131, e56_132, e56_135, e56_137, e56_140, e56_142, zgF, zgA, zgR, zisO, zpush, zopt_some, ↓reduceIte, List.getElem?_cons_succ, List.getElem?_cons_zero, beq_self_eq_true, true_and, and_true, Bool.true_and, Bool.and_true, Bool.false_and, Bool.and_false, nI_1, not_true_eq_false, not_false_eq_true, vp_narI, hD', s0, c1, hz, zb_t, n1, qd, e1, e2, rd j hj, h0]
          exact bad
        · simp only [e56_0, e56_1, e56_4, e56_5, e56_8, e56_11, e56_12, e56_13, e56_14, e56_17, e56_18, e56_19, e56_22, e56_24, e56_25, e56_26, e56_29, e56_32, e56_33, e56_34, e56_37, e56_39, e56_41, e56_44, e56_47, e56_48, e56_49, e56_50, e56_51, e56_53, e56_54, e56_56, e56_57, e56_59, e56_61, e56_63, e56_66, e56_67, e56_70, e56_73, e56_74, e56_76, e56_77, e56_78, e56_79, e56_82, e56_85, e56_86, e56_87, e56_90, e56_93, e56_95, e56_97, e56_100, e56_102, e56_104, e56_107, e56_109, e56_111, e56_113, e56_115, e56_118, e56_121, e56_122, e56_125, e56_128, e56_129, e56_130, e56_131, e56_132, e56_135, e56_137, e56_140, e56_142, zgF, zgA, zgR, zisO, zpush, zopt_some, ↓reduceIte, List.getElem?_cons_succ, List.getElem?_cons_zero, beq_self_eq_true, true_and, and_true, Bool.true_and, Bool.and_true, Bool.false_and, Bool.and_false, nI_1, not_true_eq_false, not_false_eq_true, vp_narI, hD', s0, c1, hz, zb_t, n1, qd, e1, e2, rd j hj, h0]
          exact bad
    · rw [if_neg hw] at hQ
      have w0 : ¬ w = 0 := fun h => hw (Or.inl h)
      have w1 : ¬ w = 1 := fun h => hw (Or.inr h)
      simp only [e56_0, e56_1, e56_4, e56_5, e56_8, e56_11, e56_12, e56_13, e56_14, e56_17, e56_18, e56_19, e56_22, e56_24, e56_25, e56_26, e56_29, e56_32, e56_33, e56_34, e56_37, e56_39, e56_41, e56_44, e56_47, e56_48, e56_49, e56_50, e56_51, e56_53, e56_54, e56_56, e56_57, e56_59, e56_61, e56_63, e56_66, e56_67, e56_70, e56_73, e56_74, e56_76, e56_77, e56_78, e56_79, e56_82, e56_85, e56_86, e56_87, e56_90, e56_93, e56_95, e56_97, e56_100, e56_102, e56_104, e56_107, e56_109, e56_111, e56_113, e56_115, e56_118, e56_121, e56_122, e56_125, e56_128, e56_129, e56_130, e56_131, e56_132, e56_135, e56_137, e56_140, e56_142, zgF, zgA, zgR, zisO, zpush, zopt_some, ↓reduceIte, List.getElem?_cons_succ, List.getElem?_cons_zero, beq_self_eq_true, true_and, and_true, Bool.true_and, Bool.and_true, Bool.false_and, Bool.and_false, nI_1, not_true_eq_false, not_false_eq_true, vp_narI, hD', s0, c1, hz, zb_t, n1, w0, w1]
      exact hQ h zFr.rf hK
  · rw [if_neg hz] at hQ
    rw [Bool.not_eq_true] at hz
    simp only [e56_0, e56_1, e56_4, e56_5, e56_8, e56_11, e56_12, e56_13, e56_14, e56_17, e56_18, e56_19, e56_22, e56_24, e56_25, e56_26, e56_29, e56_32, e56_33, e56_34, e56_37, e56_39, e56_41, e56_44, e56_47, e56_48, e56_49, e56_50, e56_51, e56_53, e56_54, e56_56, e56_57, e56_59, e56_61, e56_63, e56_66, e56_67, e56_70, e56_73, e56_74, e56_76, e56_77, e56_78, e56_79, e56_82, e56_85, e56_86, e56_87, e56_90, e56_93, e56_95, e56_97, e56_100, e56_102, e56_104, e56_107, e56_109, e56_111, e56_113, e56_115, e56_118, e56_121, e56_122, e56_125, e56_128, e56_129, e56_130, e56_131, e56_132, e56_135, e56_137, e56_140, e56_142, zgF, zgA, zgR, zisO, zpush, zopt_some, ↓reduceIte, List.getElem?_cons_succ, List.getElem?_cons_zero, beq_self_eq_true, true_and, and_true, Bool.true_and, Bool.and_true, Bool.false_and, Bool.and_false, nI_1, not_true_eq_false, not_false_eq_true, vp_narI, hD', s0, c1, hz, zb_f]
    exact hQ h zFr.rf hK
end ZC
end
