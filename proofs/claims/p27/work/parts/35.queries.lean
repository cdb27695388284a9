/-! what there is -/
section
set_option maxRecDepth 100000
theorem nI_toI {n : Nat} (h : n < 2 ^ 31) : (nI n).toInt = n := by
  have h1 := nI_clamp h
  have h2 := nI_pos (n := n) h
  have h3 : 0 ≤ (nI n).toInt := by
    rw [Int32.lt_iff_toInt_lt] at h2
    simpa using h2
  unfold Int32.toNatClampNeg at h1
  omega
theorem zsw {w : Int32} (n : Nat) (hn : n < 2 ^ 30) : (∃ k, k ≤ n ∧ w = nI k) ∨ (w.toInt < 0 ∨ (n : Int) < w.toInt) := by
  by_cases hz : zinb w (n + 1) = true
  · obtain ⟨k, hk, rfl⟩ := zinb_ex hz (by omega)
    exact Or.inl ⟨k, by omega, rfl⟩
  · rw [Bool.not_eq_true] at hz
    rcases (zinb_no (by omega)).mp hz with h | h
    · rw [Int32.lt_iff_toInt_lt] at h
      exact Or.inr (Or.inl (by simpa using h))
    · rw [Int32.le_iff_toInt_le, nI_toI (by omega)] at h
      exact Or.inr (Or.inr (by omega))
def qOfI (a : Nat → Int32) (j : Nat) (w : Int32) : Int32 := if w = 0 then a (5 + j) else if w = 1 then a (17 + j) else if w = 2 then a (29 + j) else if w = 3 then ldF a (gN a 3) j else if w = 4 then fsh a j else if w = 5 then nfc a (nI j) (gN a 3) else if w = 6 then npin a (nI j) (gN a 3) else -2
def qOf (a : Nat → Int32) (s w : Int32) : Int32 := if zinb s (gN a 2) = true then qOfI a s.toNatClampNeg w else -1
def qMv (a : Nat → Int32) (m w : Int32) : Int32 := if zinb m (gN a 4) = true then (if zinb w 3 = true then a (121 + 3 * m.toNatClampNeg + w.toNatClampNeg) else -2) else -1
def qObI (a : Nat → Int32) (p : Nat) (w : Int32) : Int32 := if w = 0 then a (41 + p) else if w = 1 then a (81 + p) else if w = 2 then nI (plK a p).length else -2
def qOb (a : Nat → Int32) (p w : Int32) : Int32 := if zinb p (gN a 3) = true then qObI a p.toNatClampNeg w else -1
def qSt (a : Nat → Int32) (s o : Int32) : Int32 := if zinb s (gN a 2) = true then (if zinb o 10000 = true then (if tp a s.toNatClampNeg = true then nI (lenS a s.toNatClampNeg o.toNatClampNeg) else -6) else -2) else -1
def qPl (a : Nat → Int32) (o c : Int32) : Int32 := if zinb o 10000 = true ∧ ¬ c < 0 then plG (if fnd a o = -6 then plc a o.toNatClampNeg (-6) else plK a (fnd a o).toNatClampNeg) c else -2
def qCt (a : Nat → Int32) (l n : Nat) (w : Int32) : Int32 := if w = 0 then a 2 else if w = 1 then a 3 else if w = 2 then tot a (gN a 3) else if w = 3 then nbl a (a 0) (gN a 3) else if w = 4 then a 4 else if w = 5 then ntp a (gN a 2) else if w = 6 then wsum a (gN a 2) else if w = 7 then encB (mst a (gN a 2)) else if w = 8 then a 0 else if w = 9 then a 1 else if w = 10 then nI l else if w = 11 then nI n else -2
theorem zsw_ne {w : Int32} {n k : Nat} (hk : k ≤ n) (hn : n < 2 ^ 30) (h : w.toInt < 0 ∨ (n : Int) < w.toInt) : ¬ w = nI k := by
  intro e
  rw [e, nI_toI (by omega)] at h
  omega
section ZC
variable {h : List zC} {z : Nat × (Nat × (Nat → Int32))} {a : Nat → Int32} {Q : Option Value → zX → Prop} {P T : Nat}
theorem c_D_ofServer {s w : Int32} (hg : zG a) (hK : zKo h P T a) : Ev 37 0 [.ref 0, .int s, .int w] [] (h, z) Q = Q (some (.int (qOf a s w))) (h, z) := by
  obtain ⟨⟨-, hD, hS, -⟩, ⟨cf, sf, lf, t, hL, hA⟩⟩ := hK
  have hD' : h[0]? = some (zob 5 [.ref 1, .ref 10, .ref 75, .ref 76, .ref 77, .ref 80, .ref P, .ref T]) := hD
  have c1 := fun (s : Int32) (Q : Option Value → zX → Prop) => c_S_hasServer (s := s) (z := z) (Q := Q) hS hg
  have b2 := hg.2.2.1.2
  obtain ⟨g3, b3⟩ := hg.2.2.2.1
  have s0 := hS.1
  by_cases hz : zinb s (gN a 2) = true
  · obtain ⟨j, hj, rfl⟩ := zinb_ex hz (by omega)
    have e2 : (nI j).toNatClampNeg = j := nI_clamp (by omega)
    have e3 : zinb (nI j) 12 = true := zinb_nI (by omega) (by decide)
    have eq : qOf a (nI j) w = qOfI a j w := by unfold qOf; rw [if_pos hz, e2]
    rw [eq]
    have n1 : ¬ (1 : Int32) = 0 := by decide
    rcases zsw (w := w) 6 (by decide) with ⟨k, hk, rfl⟩ | ho
    · rcases (show k = 0 ∨ k = 1 ∨ k = 2 ∨ k = 3 ∨ k = 4 ∨ k = 5 ∨ k = 6 by omega) with rfl | rfl | rfl | rfl | rfl | rfl | rfl
      · rw [show qOfI a j (nI 0) = a (5 + j) from rfl, show nI 0 = (0 : Int32) from rfl]
        obtain ⟨f1, q1, r1⟩ := hS.2.1
        simp only [e37_0, e37_1, e37_4, e37_5, e37_8, e37_11, e37_12, e37_13, e37_14_c0, e37_14_c1, e37_14_c2, e37_14_c3, e37_14_c4, e37_14_c5, e37_14_c6, e37_56, e37_57, e37_60, e37_63, e37_64, e37_65, e37_66, e37_67, e37_70, e37_73, e37_74, e37_75, e37_76, e37_77, e37_80, e37_83, e37_84, e37_85, e37_88, e37_89, e37_92, e37_93, e37_94, e37_95, e37_98, e37_101, e37_102, e37_103, e37_104, e37_105, e37_106, e37_107, e37_110, e37_111, e37_114, e37_117, e37_120, e37_121, e37_122, e37_125, e37_126, e37_127, e37_130, e37_133, e37_136, e37_137, e37_138, e37_141, e37_142, e37_145, e37_146, e37_148, zgF, zgA, zgR, zisO, zpush, zopt_some, ↓reduceIte, List.getElem?_cons_succ, List.getElem?_cons_zero, beq_self_eq_true, true_and, and_true, Bool.true_and, Bool.and_true, Bool.false_and, Bool.and_false, nI_1, not_true_eq_false, not_false_eq_true, vp_narI, hD', s0, c1, hz, zb_t, n1, q1, e2, e3, r1 j hj]
      · rw [show qOfI a j (nI 1) = a (17 + j) from rfl, show nI 1 = (1 : Int32) from rfl]
        obtain ⟨f1, q1, r1⟩ := hS.2.2.1
        simp only [e37_0, e37_1, e37_4, e37_5, e37_8, e37_11, e37_12, e37_13, e37_14_c0, e37_14_c1, e37_14_c2, e37_14_c3, e37_14_c4, e37_14_c5, e37_14_c6, e37_56, e37_57, e37_60, e37_63, e37_64, e37_65, e37_66, e37_67, e37_70, e37_73, e37_74, e37_75, e37_76, e37_77, e37_80, e37_83, e37_84, e37_85, e37_88, e37_89, e37_92, e37_93, e37_94, e37_95, e37_98, e37_101, e37_102, e37_103, e37_104, e37_105, e37_106, e37_107, e37_110, e37_111, e37_114, e37_117, e37_120, e37_121, e37_122, e37_125, e37_126, e37_127, e37_130, e37_133, e37_136, e37_137, e37_138, e37_141, e37_142, e37_145, e37_146, e37_148, zgF, zgA, zgR, zisO, zpush, zopt_some, ↓reduceIte, List.getElem?_cons_succ, List.getElem?_cons_zero, beq_self_eq_true, true_and, and_true, Bool.true_and, Bool.and_true, Bool.false_and, Bool.and_false, nI_1, not_true_eq_false, not_false_eq_true, vp_narI, hD', s0, c1, hz, zb_t, n1, q1, e2, e3, r1 j hj]
      · rw [show qOfI a j (nI 2) = a (29 + j) from rfl, show nI 2 = (2 : Int32) from rfl]
        obtain ⟨f1, q1, r1⟩ := hS.2.2.2.1
        rcases (hg.2.2.2.2.2.1 j hj).2.2 with h0 | h0
        · simp only [e37_0, e37_1, e37_4, e37_5, e37_8, e37_11, e37_12, e37_13, e37_14_c0, e37_14_c1, e37_14_c2, e37_14_c3, e37_14_c4, e37_14_c5, e37_14_c6, e37_56, e37_57, e37_60, e37_63, e37_64, e37_65, e37_66, e37_67, e37_70, e37_73, e37_74, e37_75, e37_76, e37_77, e37_80, e37_83, e37_84, e37_85, e37_88, e37_89, e37_92, e37_93, e37_94, e37_95, e37_98, e37_101, e37_102, e37_103, e37_104, e37_105, e37_106, e37_107, e37_110, e37_111, e37_114, e37_117, e37_120, e37_121, e37_122, e37_125, e37_126, e37_127, e37_130, e37_133, e37_136, e37_137, e37_138, e37_141, e37_142, e37_145, e37_146, e37_148, zgF, zgA, zgR, zisO, zpush, zopt_some, ↓reduceIte, List.getElem?_cons_succ, List.getElem?_cons_zero, beq_self_eq_true, true_and, and_true, Bool.true_and, Bool.and_true, Bool.false_and, Bool.and_false, nI_1, not_true_eq_false, not_false_eq_true, vp_narI, hD', s0, c1, hz, zb_t, n1, q1, e2, e3, r1 j hj, h0]
        · simp only [e37_0, e37_1, e37_4, e37_5, e37_8, e37_11, e37_12, e37_13, e37_14_c0, e37_14_c1, e37_14_c2, e37_14_c3, e37_14_c4, e37_14_c5, e37_14_c6, e37_56, e37_57, e37_60, e37_63, e37_64, e37_65, e37_66, e37_67, e37_70, e37_73, e37_74, e37_75, e37_76, e37_77, e37_80, e37_83, e37_84, e37_85, e37_88, e37_89, e37_92, e37_93, e37_94, e37_95, e37_98, e37_101, e37_102, e37_103, e37_104, e37_105, e37_106, e37_107, e37_110, e37_111, e37_114, e37_117, e37_120, e37_121, e37_122, e37_125, e37_126, e37_127, e37_130, e37_133, e37_136, e37_137, e37_138, e37_141, e37_142, e37_145, e37_146, e37_148, zgF, zgA, zgR, zisO, zpush, zopt_some, ↓reduceIte, List.getElem?_cons_succ, List.getElem?_cons_zero, beq_self_eq_true, true_and, and_true, Bool.true_and, Bool.and_true, Bool.false_and, Bool.and_false, nI_1, not_true_eq_false, not_false_eq_true, vp_narI, hD', s0, c1, hz, zb_t, n1, q1, e2, e3, r1 j hj, h0]
      · rw [show qOfI a j (nI 3) = ldF a (gN a 3) j from rfl, show nI 3 = (3 : Int32) from rfl]
        simp only [e37_0, e37_1, e37_4, e37_5, e37_8, e37_11, e37_12, e37_13, e37_14_c0, e37_14_c1, e37_14_c2, e37_14_c3, e37_14_c4, e37_14_c5, e37_14_c6, e37_56, e37_57, e37_60, e37_63, e37_64, e37_65, e37_66, e37_67, e37_70, e37_73, e37_74, e37_75, e37_76, e37_77, e37_80, e37_83, e37_84, e37_85, e37_88, e37_89, e37_92, e37_93, e37_94, e37_95, e37_98, e37_101, e37_102, e37_103, e37_104, e37_105, e37_106, e37_107, e37_110, e37_111, e37_114, e37_117, e37_120, e37_121, e37_122, e37_125, e37_126, e37_127, e37_130, e37_133, e37_136, e37_137, e37_138, e37_141, e37_142, e37_145, e37_146, e37_148, zgF, zgA, zgR, zisO, zpush, zopt_some, ↓reduceIte, List.getElem?_cons_succ, List.getElem?_cons_zero, beq_self_eq_true, true_and, and_true, Bool.true_and, Bool.and_true, Bool.false_and, Bool.and_false, nI_1, not_true_eq_false, not_false_eq_true, vp_narI, hD', s0, c1, hz, zb_t, n1, hL.1, hL.2.2.2, e2, e3, hA.2.2.1 j (by omega)]
      · rw [show qOfI a j (nI 4) = fsh a j from rfl, show nI 4 = (4 : Int32) from rfl]
        have c2 := fun (Q : Option Value → zX → Prop) => c_S_weightsTogether (z := z) (Q := Q) hS hg
        have c3 := fun (Q : Option Value → zX → Prop) => c_D_fairShare (z := z) (Q := Q) hg hj hD hS hL hA.2.2.2
        simp only [e37_0, e37_1, e37_4, e37_5, e37_8, e37_11, e37_12, e37_13, e37_14_c0, e37_14_c1, e37_14_c2, e37_14_c3, e37_14_c4, e37_14_c5, e37_14_c6, e37_56, e37_57, e37_60, e37_63, e37_64, e37_65, e37_66, e37_67, e37_70, e37_73, e37_74, e37_75, e37_76, e37_77, e37_80, e37_83, e37_84, e37_85, e37_88, e37_89, e37_92, e37_93, e37_94, e37_95, e37_98, e37_101, e37_102, e37_103, e37_104, e37_105, e37_106, e37_107, e37_110, e37_111, e37_114, e37_117, e37_120, e37_121, e37_122, e37_125, e37_126, e37_127, e37_130, e37_133, e37_136, e37_137, e37_138, e37_141, e37_142, e37_145, e37_146, e37_148, zgF, zgA, zgR, zisO, zpush, zopt_some, ↓reduceIte, List.getElem?_cons_succ, List.getElem?_cons_zero, beq_self_eq_true, true_and, and_true, Bool.true_and, Bool.and_true, Bool.false_and, Bool.and_false, nI_1, not_true_eq_false, not_false_eq_true, vp_narI, hD', s0, c1, hz, zb_t, n1, c2, c3]
      · rw [show qOfI a j (nI 5) = nfc a (nI j) (gN a 3) from rfl, show nI 5 = (5 : Int32) from rfl]
        have c2 := fun (Q : Option Value → zX → Prop) => c_Y_firstCopies (z := z) (s := nI j) (Q := Q) hg hL hA b3
        rw [← g3] at c2
        simp only [e37_0, e37_1, e37_4, e37_5, e37_8, e37_11, e37_12, e37_13, e37_14_c0, e37_14_c1, e37_14_c2, e37_14_c3, e37_14_c4, e37_14_c5, e37_14_c6, e37_56, e37_57, e37_60, e37_63, e37_64, e37_65, e37_66, e37_67, e37_70, e37_73, e37_74, e37_75, e37_76, e37_77, e37_80, e37_83, e37_84, e37_85, e37_88, e37_89, e37_92, e37_93, e37_94, e37_95, e37_98, e37_101, e37_102, e37_103, e37_104, e37_105, e37_106, e37_107, e37_110, e37_111, e37_114, e37_117, e37_120, e37_121, e37_122, e37_125, e37_126, e37_127, e37_130, e37_133, e37_136, e37_137, e37_138, e37_141, e37_142, e37_145, e37_146, e37_148, zgF, zgA, zgR, zisO, zpush, zopt_some, ↓reduceIte, List.getElem?_cons_succ, List.getElem?_cons_zero, beq_self_eq_true, true_and, and_true, Bool.true_and, Bool.and_true, Bool.false_and, Bool.and_false, nI_1, not_true_eq_false, not_false_eq_true, vp_narI, hD', s0, c1, hz, zb_t, n1, hL.1, c2]
      · rw [show qOfI a j (nI 6) = npin a (nI j) (gN a 3) from rfl, show nI 6 = (6 : Int32) from rfl]
        have c2 := fun (Q : Option Value → zX → Prop) => c_S_pinsTo (z := z) (s := nI j) (Q := Q) hS hg
        simp only [e37_0, e37_1, e37_4, e37_5, e37_8, e37_11, e37_12, e37_13, e37_14_c0, e37_14_c1, e37_14_c2, e37_14_c3, e37_14_c4, e37_14_c5, e37_14_c6, e37_56, e37_57, e37_60, e37_63, e37_64, e37_65, e37_66, e37_67, e37_70, e37_73, e37_74, e37_75, e37_76, e37_77, e37_80, e37_83, e37_84, e37_85, e37_88, e37_89, e37_92, e37_93, e37_94, e37_95, e37_98, e37_101, e37_102, e37_103, e37_104, e37_105, e37_106, e37_107, e37_110, e37_111, e37_114, e37_117, e37_120, e37_121, e37_122, e37_125, e37_126, e37_127, e37_130, e37_133, e37_136, e37_137, e37_138, e37_141, e37_142, e37_145, e37_146, e37_148, zgF, zgA, zgR, zisO, zpush, zopt_some, ↓reduceIte, List.getElem?_cons_succ, List.getElem?_cons_zero, beq_self_eq_true, true_and, and_true, Bool.true_and, Bool.and_true, Bool.false_and, Bool.and_false, nI_1, not_true_eq_false, not_false_eq_true, vp_narI, hD', s0, c1, hz, zb_t, n1, c2]
    · have d := fun {l0 : Nat} {l1 l2 : Int32} {X : zX} {Q : Option Value → zX → Prop} => @e37_14_d l0 l1 l2 w X Q ho
      have eq : qOfI a j w = -2 := by
        unfold qOfI
        rw [if_neg (show ¬ w = 0 from zsw_ne (k := 0) (by decide) (by decide) ho), if_neg (show ¬ w = 1 from zsw_ne (k := 1) (by decide) (by decide) ho), if_neg (show ¬ w = 2 from zsw_ne (k := 2) (by decide) (by decide) ho), if_neg (show ¬ w = 3 from zsw_ne (k := 3) (by decide) (by decide) ho), if_neg (show ¬ w = 4 from zsw_ne (k := 4) (by decide) (by decide) ho), if_neg (show ¬ w = 5 from zsw_ne (k := 5) (by decide) (by decide) ho), if_neg (show ¬ w = 6 from zsw_ne (k := 6) (by decide) (by decide) ho)]
      rw [eq]
      simp only [e37_0, e37_1, e37_4, e37_5, e37_8, e37_11, e37_12, e37_13, e37_56, e37_57, e37_60, e37_63, e37_64, e37_65, e37_66, e37_67, e37_70, e37_73, e37_74, e37_75, e37_76, e37_77, e37_80, e37_83, e37_84, e37_85, e37_88, e37_89, e37_92, e37_93, e37_94, e37_95, e37_98, e37_101, e37_102, e37_103, e37_104, e37_105, e37_106, e37_107, e37_110, e37_111, e37_114, e37_117, e37_120, e37_121, e37_122, e37_125, e37_126, e37_127, e37_130, e37_133, e37_136, e37_137, e37_138, e37_141, e37_142, e37_145, e37_146, e37_148, zgF, zgA, zgR, zisO, zpush, zopt_some, ↓reduceIte, List.getElem?_cons_succ, List.getElem?_cons_zero, beq_self_eq_true, true_and, and_true, Bool.true_and, Bool.and_true, Bool.false_and, Bool.and_false, nI_1, not_true_eq_false, not_false_eq_true, vp_narI, hD', s0, c1, hz, zb_t, n1, d]
  · have eq : qOf a s w = -1 := by unfold qOf; rw [if_neg hz]
    rw [Bool.not_eq_true] at hz
    simp only [e37_0, e37_1, e37_4, e37_5, e37_8, e37_11, e37_12, e37_13, e37_14_c0, e37_14_c1, e37_14_c2, e37_14_c3, e37_14_c4, e37_14_c5, e37_14_c6, e37_56, e37_57, e37_60, e37_63, e37_64, e37_65, e37_66, e37_67, e37_70, e37_73, e37_74, e37_75, e37_76, e37_77, e37_80, e37_83, e37_84, e37_85, e37_88, e37_89, e37_92, e37_93, e37_94, e37_95, e37_98, e37_101, e37_102, e37_103, e37_104, e37_105, e37_106, e37_107, e37_110, e37_111, e37_114, e37_117, e37_120, e37_121, e37_122, e37_125, e37_126, e37_127, e37_130, e37_133, e37_136, e37_137, e37_138, e37_141, e37_142, e37_145, e37_146, e37_148, zgF, zgA, zgR, zisO, zpush, zopt_some, ↓reduceIte, List.getElem?_cons_succ, List.getElem?_cons_zero, beq_self_eq_true, true_and, and_true, Bool.true_and, Bool.and_true, Bool.false_and, Bool.and_false, nI_1, not_true_eq_false, not_false_eq_true, vp_narI, hD', s0, c1, hz, zb_f, eq]
theorem zinb_pm {m : Int32} {v : Int32} {n : Nat} (hv : v = nI n) (hn : n < 2 ^ 31) : (zinb m n = true → ¬ m < 0 ∧ m < v) ∧ (zinb m n = false → m < 0 ∨ (¬ m < 0 ∧ ¬ m < v)) := by
  subst hv
  constructor
  · intro h
    obtain ⟨j, hj, rfl⟩ := zinb_ex h hn
    exact ⟨nI_pos (by omega), nI_lt hj (by omega)⟩
  · intro h
    by_cases h0 : m < 0
    · exact Or.inl h0
    · rcases (zinb_no hn).mp h with h | h
      · exact Or.inl h
      · exact Or.inr ⟨h0, Int32.not_lt.mpr h⟩
theorem c_D_move {m w : Int32} (hg : zG a) (hK : zKo h P T a) : Ev 40 0 [.ref 0, .int m, .int w] [] (h, z) Q = Q (some (.int (qMv a m w))) (h, z) := by
  obtain ⟨⟨-, hD, hS, -⟩, -⟩ := hK
  have hD' : h[0]? = some (zob 5 [.ref 1, .ref 10, .ref 75, .ref 76, .ref 77, .ref 80, .ref P, .ref T]) := hD
  obtain ⟨g4, b4⟩ := hg.2.2.2.2.1
  have pm := zinb_pm (m := m) g4 (by omega)
  obtain ⟨s0, -, -, -, -, -, ⟨f1, q1, r1⟩, ⟨f2, q2, r2⟩, ⟨f3, q3, r3⟩⟩ := hS
  by_cases hz : zinb m (gN a 4) = true
  · obtain ⟨h1, h2⟩ := pm.1 hz
    obtain ⟨j, hj, rfl⟩ := zinb_ex hz (by omega)
    have e2 : (nI j).toNatClampNeg = j := nI_clamp (by omega)
    have e3 : zinb (nI j) 120 = true := zinb_nI (by omega) (by decide)
    rcases zsw (w := w) 2 (by decide) with ⟨k, hk, rfl⟩ | ho
    · have eq : qMv a (nI j) (nI k) = a (121 + 3 * j + k) := by unfold qMv; rw [if_pos hz, e2, if_pos (zinb_nI (by omega) (by decide)), nI_clamp (by omega)]
      rw [eq]
      rcases (show k = 0 ∨ k = 1 ∨ k = 2 by omega) with rfl | rfl | rfl
      · rw [show nI 0 = (0 : Int32) from rfl]
        simp only [e40_0, e40_1, e40_4, e40_5, e40_6, e40_9, e40_12, e40_15, e40_16, e40_17, e40_18_c0, e40_18_c1, e40_18_c2, e40_44, e40_45, e40_48, e40_51, e40_52, e40_53, e40_54, e40_55, e40_58, e40_61, e40_62, e40_63, e40_64, e40_65, e40_68, e40_71, e40_72, e40_73, e40_74, e40_76, zgF, zgA, zgR, zisO, zpush, zopt_some, ↓reduceIte, List.getElem?_cons_succ, List.getElem?_cons_zero, beq_self_eq_true, true_and, and_true, Bool.true_and, Bool.and_true, Bool.false_and, Bool.and_false, nI_1, not_true_eq_false, not_false_eq_true, vp_narI, hD', s0, h1, h2, q1, e2, e3, r1 j hj, Nat.add_zero]
      · rw [show nI 1 = (1 : Int32) from rfl, show 121 + 3 * j + 1 = 122 + 3 * j by omega]
        simp only [e40_0, e40_1, e40_4, e40_5, e40_6, e40_9, e40_12, e40_15, e40_16, e40_17, e40_18_c0, e40_18_c1, e40_18_c2, e40_44, e40_45, e40_48, e40_51, e40_52, e40_53, e40_54, e40_55, e40_58, e40_61, e40_62, e40_63, e40_64, e40_65, e40_68, e40_71, e40_72, e40_73, e40_74, e40_76, zgF, zgA, zgR, zisO, zpush, zopt_some, ↓reduceIte, List.getElem?_cons_succ, List.getElem?_cons_zero, beq_self_eq_true, true_and, and_true, Bool.true_and, Bool.and_true, Bool.false_and, Bool.and_false, nI_1, not_true_eq_false, not_false_eq_true, vp_narI, hD', s0, h1, h2, q2, e2, e3, r2 j hj]
      · rw [show nI 2 = (2 : Int32) from rfl, show 121 + 3 * j + 2 = 123 + 3 * j by omega]
        simp only [e40_0, e40_1, e40_4, e40_5, e40_6, e40_9, e40_12, e40_15, e40_16, e40_17, e40_18_c0, e40_18_c1, e40_18_c2, e40_44, e40_45, e40_48, e40_51, e40_52, e40_53, e40_54, e40_55, e40_58, e40_61, e40_62, e40_63, e40_64, e40_65, e40_68, e40_71, e40_72, e40_73, e40_74, e40_76, zgF, zgA, zgR, zisO, zpush, zopt_some, ↓reduceIte, List.getElem?_cons_succ, List.getElem?_cons_zero, beq_self_eq_true, true_and, and_true, Bool.true_and, Bool.and_true, Bool.false_and, Bool.and_false, nI_1, not_true_eq_false, not_false_eq_true, vp_narI, hD', s0, h1, h2, q3, e2, e3, r3 j hj]
    · have d := fun {l0 : Nat} {l1 l2 : Int32} {X : zX} {Q : Option Value → zX → Prop} => @e40_18_d l0 l1 l2 w X Q ho
      have eq : qMv a (nI j) w = -2 := by
        unfold qMv
        rw [if_pos hz, if_neg]
        intro h3
        obtain ⟨k, hk, rfl⟩ := zinb_ex h3 (by decide)
        exact zsw_ne (k := k) (by omega) (by decide) ho rfl
      simp only [e40_0, e40_1, e40_4, e40_5, e40_6, e40_9, e40_12, e40_15, e40_16, e40_17, e40_44, e40_45, e40_48, e40_51, e40_52, e40_53, e40_54, e40_55, e40_58, e40_61, e40_62, e40_63, e40_64, e40_65, e40_68, e40_71, e40_72, e40_73, e40_74, e40_76, zgF, zgA, zgR, zisO, zpush, zopt_some, ↓reduceIte, List.getElem?_cons_succ, List.getElem?_cons_zero, beq_self_eq_true, true_and, and_true, Bool.true_and, Bool.and_true, Bool.false_and, Bool.and_false, nI_1, not_true_eq_false, not_false_eq_true, vp_narI, hD', s0, h1, h2, d, eq]
  · have eq : qMv a m w = -1 := by unfold qMv; rw [if_neg hz]
    rw [Bool.not_eq_true] at hz
    rcases pm.2 hz with h1 | ⟨h1, h2⟩
    · simp only [e40_0, e40_1, e40_4, e40_5, e40_6, e40_9, e40_12, e40_15, e40_16, e40_17, e40_18_c0, e40_18_c1, e40_18_c2, e40_44, e40_45, e40_48, e40_51, e40_52, e40_53, e40_54, e40_55, e40_58, e40_61, e40_62, e40_63, e40_64, e40_65, e40_68, e40_71, e40_72, e40_73, e40_74, e40_76, zgF, zgA, zgR, zisO, zpush, zopt_some, ↓reduceIte, List.getElem?_cons_succ, List.getElem?_cons_zero, beq_self_eq_true, true_and, and_true, Bool.true_and, Bool.and_true, Bool.false_and, Bool.and_false, nI_1, not_true_eq_false, not_false_eq_true, vp_narI, hD', s0, h1, eq]
    · simp only [e40_0, e40_1, e40_4, e40_5, e40_6, e40_9, e40_12, e40_15, e40_16, e40_17, e40_18_c0, e40_18_c1, e40_18_c2, e40_44, e40_45, e40_48, e40_51, e40_52, e40_53, e40_54, e40_55, e40_58, e40_61, e40_62, e40_63, e40_64, e40_65, e40_68, e40_71, e40_72, e40_73, e40_74, e40_76, zgF, zgA, zgR, zisO, zpush, zopt_some, ↓reduceIte, List.getElem?_cons_succ, List.getElem?_cons_zero, beq_self_eq_true, true_and, and_true, Bool.true_and, Bool.and_true, Bool.false_and, Bool.and_false, nI_1, not_true_eq_false, not_false_eq_true, vp_narI, hD', s0, h1, h2, eq]
theorem c_D_object {m w : Int32} (hg : zG a) (hK : zKo h P T a) : Ev 41 0 [.ref 0, .int m, .int w] [] (h, z) Q = Q (some (.int (qOb a m w))) (h, z) := by
  obtain ⟨⟨-, hD, hS, -⟩, ⟨cf, sf, lf, t, hL, hA⟩⟩ := hK
  have hD' : h[0]? = some (zob 5 [.ref 1, .ref 10, .ref 75, .ref 76, .ref 77, .ref 80, .ref P, .ref T]) := hD
  obtain ⟨g4, b4⟩ := hg.2.2.2.1
  have pm := zinb_pm (m := m) g4 (by omega)
  obtain ⟨s0, -, -, -, ⟨f1, q1, r1⟩, ⟨f2, q2, r2⟩, -⟩ := hS
  by_cases hz : zinb m (gN a 3) = true
  · obtain ⟨h1, h2⟩ := pm.1 hz
    obtain ⟨j, hj, rfl⟩ := zinb_ex hz (by omega)
    have e2 : (nI j).toNatClampNeg = j := nI_clamp (by omega)
    have e3 : zinb (nI j) 40 = true := zinb_nI (by omega) (by decide)
    have e4 : zinb (nI j) 41 = true := zinb_nI (by omega) (by decide)
    have eq : qOb a (nI j) w = qObI a j w := by unfold qOb; rw [if_pos hz, e2]
    rw [eq]
    rcases zsw (w := w) 2 (by decide) with ⟨k, hk, rfl⟩ | ho
    · rcases (show k = 0 ∨ k = 1 ∨ k = 2 by omega) with rfl | rfl | rfl
      · rw [show qObI a j (nI 0) = a (41 + j) from rfl, show nI 0 = (0 : Int32) from rfl]
        simp only [e41_0, e41_1, e41_4, e41_5, e41_6, e41_9, e41_12, e41_15, e41_16, e41_17, e41_18_c0, e41_18_c1, e41_18_c2, e41_44, e41_45, e41_48, e41_51, e41_52, e41_53, e41_54, e41_55, e41_58, e41_61, e41_62, e41_63, e41_64, e41_65, e41_68, e41_71, e41_72, e41_73, e41_74, e41_76, zgF, zgA, zgR, zisO, zpush, zopt_some, ↓reduceIte, List.getElem?_cons_succ, List.getElem?_cons_zero, beq_self_eq_true, true_and, and_true, Bool.true_and, Bool.and_true, Bool.false_and, Bool.and_false, nI_1, not_true_eq_false, not_false_eq_true, vp_narI, hD', s0, h1, h2, q1, e2, e3, r1 j hj]
      · rw [show qObI a j (nI 1) = a (81 + j) from rfl, show nI 1 = (1 : Int32) from rfl]
        simp only [e41_0, e41_1, e41_4, e41_5, e41_6, e41_9, e41_12, e41_15, e41_16, e41_17, e41_18_c0, e41_18_c1, e41_18_c2, e41_44, e41_45, e41_48, e41_51, e41_52, e41_53, e41_54, e41_55, e41_58, e41_61, e41_62, e41_63, e41_64, e41_65, e41_68, e41_71, e41_72, e41_73, e41_74, e41_76, zgF, zgA, zgR, zisO, zpush, zopt_some, ↓reduceIte, List.getElem?_cons_succ, List.getElem?_cons_zero, beq_self_eq_true, true_and, and_true, Bool.true_and, Bool.and_true, Bool.false_and, Bool.and_false, nI_1, not_true_eq_false, not_false_eq_true, vp_narI, hD', s0, h1, h2, q2, e2, e3, r2 j hj]
      · rw [show qObI a j (nI 2) = nI (plK a j).length from rfl, show nI 2 = (2 : Int32) from rfl]
        simp only [e41_0, e41_1, e41_4, e41_5, e41_6, e41_9, e41_12, e41_15, e41_16, e41_17, e41_18_c0, e41_18_c1, e41_18_c2, e41_44, e41_45, e41_48, e41_51, e41_52, e41_53, e41_54, e41_55, e41_58, e41_61, e41_62, e41_63, e41_64, e41_65, e41_68, e41_71, e41_72, e41_73, e41_74, e41_76, zgF, zgA, zgR, zisO, zpush, zopt_some, ↓reduceIte, List.getElem?_cons_succ, List.getElem?_cons_zero, beq_self_eq_true, true_and, and_true, Bool.true_and, Bool.and_true, Bool.false_and, Bool.and_false, nI_1, not_true_eq_false, not_false_eq_true, vp_narI, hD', s0, h1, h2, hL.1, hL.2.1, e2, e4, (hA.1 j hj).1]
    · have d := fun {l0 : Nat} {l1 l2 : Int32} {X : zX} {Q : Option Value → zX → Prop} => @e41_18_d l0 l1 l2 w X Q ho
      have eq : qObI a j w = -2 := by
        unfold qObI
        rw [if_neg (show ¬ w = 0 from zsw_ne (k := 0) (by decide) (by decide) ho), if_neg (show ¬ w = 1 from zsw_ne (k := 1) (by decide) (by decide) ho), if_neg (show ¬ w = 2 from zsw_ne (k := 2) (by decide) (by decide) ho)]
      simp only [e41_0, e41_1, e41_4, e41_5, e41_6, e41_9, e41_12, e41_15, e41_16, e41_17, e41_44, e41_45, e41_48, e41_51, e41_52, e41_53, e41_54, e41_55, e41_58, e41_61, e41_62, e41_63, e41_64, e41_65, e41_68, e41_71, e41_72, e41_73, e41_74, e41_76, zgF, zgA, zgR, zisO, zpush, zopt_some, ↓reduceIte, List.getElem?_cons_succ, List.getElem?_cons_zero, beq_self_eq_true, true_and, and_true, Bool.true_and, Bool.and_true, Bool.false_and, Bool.and_false, nI_1, not_true_eq_false, not_false_eq_true, vp_narI, hD', s0, h1, h2, d, eq]
  · have eq : qOb a m w = -1 := by unfold qOb; rw [if_neg hz]
    rw [Bool.not_eq_true] at hz
    rcases pm.2 hz with h1 | ⟨h1, h2⟩
    · simp only [e41_0, e41_1, e41_4, e41_5, e41_6, e41_9, e41_12, e41_15, e41_16, e41_17, e41_18_c0, e41_18_c1, e41_18_c2, e41_44, e41_45, e41_48, e41_51, e41_52, e41_53, e41_54, e41_55, e41_58, e41_61, e41_62, e41_63, e41_64, e41_65, e41_68, e41_71, e41_72, e41_73, e41_74, e41_76, zgF, zgA, zgR, zisO, zpush, zopt_some, ↓reduceIte, List.getElem?_cons_succ, List.getElem?_cons_zero, beq_self_eq_true, true_and, and_true, Bool.true_and, Bool.and_true, Bool.false_and, Bool.and_false, nI_1, not_true_eq_false, not_false_eq_true, vp_narI, hD', s0, h1, eq]
    · simp only [e41_0, e41_1, e41_4, e41_5, e41_6, e41_9, e41_12, e41_15, e41_16, e41_17, e41_18_c0, e41_18_c1, e41_18_c2, e41_44, e41_45, e41_48, e41_51, e41_52, e41_53, e41_54, e41_55, e41_58, e41_61, e41_62, e41_63, e41_64, e41_65, e41_68, e41_71, e41_72, e41_73, e41_74, e41_76, zgF, zgA, zgR, zisO, zpush, zopt_some, ↓reduceIte, List.getElem?_cons_succ, List.getElem?_cons_zero, beq_self_eq_true, true_and, and_true, Bool.true_and, Bool.and_true, Bool.false_and, Bool.and_false, nI_1, not_true_eq_false, not_false_eq_true, vp_narI, hD', s0, h1, h2, eq]
theorem c_D_straw {s o : Int32} (hg : zG a) (hK : zKo h P T a) : Ev 39 0 [.ref 0, .int s, .int o] [] (h, z) Q = Q (some (.int (qSt a s o))) (h, z) := by
  obtain ⟨⟨-, hD, hS, -⟩, -⟩ := hK
  have hD' : h[0]? = some (zob 5 [.ref 1, .ref 10, .ref 75, .ref 76, .ref 77, .ref 80, .ref P, .ref T]) := hD
  have c1 := fun (s : Int32) (Q : Option Value → zX → Prop) => c_S_hasServer (s := s) (z := z) (Q := Q) hS hg
  have c2 := fun (s : Int32) (Q : Option Value → zX → Prop) => c_S_takesPart (s := s) (z := z) (Q := Q) hS hg
  have b2 := hg.2.2.1.2
  have s0 := hS.1
  have n1 : ¬ (1 : Int32) = 0 := by decide
  unfold qSt
  by_cases hz : zinb s (gN a 2) = true
  · obtain ⟨j, hj, rfl⟩ := zinb_ex hz (by omega)
    have e2 : (nI j).toNatClampNeg = j := nI_clamp (by omega)
    have e3 : zinb (nI j) 12 = true := zinb_nI (by omega) (by decide)
    rw [if_pos hz, e2]
    by_cases ho : zinb o 10000 = true
    · obtain ⟨q, hq, rfl⟩ := zinb_ex ho (by decide)
      have a1 : ¬ nI q < 0 := nI_pos (by omega)
      have a2 : nI q ≤ 9999 := Int32.not_lt.mp (nI_nlt (a := 9999) (show q ≤ 9999 by omega) (by omega))
      rw [if_pos ho, nI_clamp (n := q) (by omega)]
      by_cases ht : tp a j = true
      · rw [if_pos ht]
        obtain ⟨f2, q2, r2⟩ := hS.2.2.1
        have hw := (hg.2.2.2.2.2.1 j hj).2.1
        have g1 := hg.2.1.1
        have c3 := fun (Q : Option Value → zX → Prop) => c_W_longest (Q := Q) (seed := 1000 * q + gN a 1) (s := j) (w := gN a (17 + j)) (X := (h, z)) hw.2
        simp only [e39_0, e39_1, e39_4, e39_5, e39_8, e39_11, e39_12, e39_13, e39_14, e39_17, e39_18, e39_21, e39_24, e39_26, e39_27, e39_28, e39_31, e39_32, e39_35, e39_38, e39_40, e39_41, e39_44, e39_45, e39_46, e39_47, e39_50, e39_53, e39_54, e39_55, e39_56, e39_59, e39_62, e39_63, e39_64, e39_67, zgF, zgA, zgR, zisO, zpush, zopt_some, ↓reduceIte, List.getElem?_cons_succ, List.getElem?_cons_zero, beq_self_eq_true, true_and, and_true, Bool.true_and, Bool.and_true, Bool.false_and, Bool.and_false, nI_1, not_true_eq_false, not_false_eq_true, vp_narI, hD', s0, c1, c2, hz, zb_t, n1, a1, a2, e2, e3, ht, q2, r2 j hj]
        rw [hw.1, g1, zc1000, pk_mul, nI_add, c3]
        simp only [e39_0, e39_1, e39_4, e39_5, e39_8, e39_11, e39_12, e39_13, e39_14, e39_17, e39_18, e39_21, e39_24, e39_26, e39_27, e39_28, e39_31, e39_32, e39_35, e39_38, e39_40, e39_41, e39_44, e39_45, e39_46, e39_47, e39_50, e39_53, e39_54, e39_55, e39_56, e39_59, e39_62, e39_63, e39_64, e39_67, zgF, zgA, zgR, zisO, zpush, zopt_some, ↓reduceIte, List.getElem?_cons_succ, List.getElem?_cons_zero, beq_self_eq_true, true_and, and_true, Bool.true_and, Bool.and_true, Bool.false_and, Bool.and_false, nI_1, not_true_eq_false, not_false_eq_true, vp_narI]
        rfl
      · rw [if_neg ht]
        rw [Bool.not_eq_true] at ht
        simp only [e39_0, e39_1, e39_4, e39_5, e39_8, e39_11, e39_12, e39_13, e39_14, e39_17, e39_18, e39_21, e39_24, e39_26, e39_27, e39_28, e39_31, e39_32, e39_35, e39_38, e39_40, e39_41, e39_44, e39_45, e39_46, e39_47, e39_50, e39_53, e39_54, e39_55, e39_56, e39_59, e39_62, e39_63, e39_64, e39_67, zgF, zgA, zgR, zisO, zpush, zopt_some, ↓reduceIte, List.getElem?_cons_succ, List.getElem?_cons_zero, beq_self_eq_true, true_and, and_true, Bool.true_and, Bool.and_true, Bool.false_and, Bool.and_false, nI_1, not_true_eq_false, not_false_eq_true, vp_narI, hD', s0, c1, c2, hz, zb_t, zb_f, n1, a1, a2, e2, e3, ht]
    · rw [if_neg ho]
      rw [Bool.not_eq_true] at ho
      rcases (zinb_no (by decide)).mp ho with h3 | h3
      · simp only [e39_0, e39_1, e39_4, e39_5, e39_8, e39_11, e39_12, e39_13, e39_14, e39_17, e39_18, e39_21, e39_24, e39_26, e39_27, e39_28, e39_31, e39_32, e39_35, e39_38, e39_40, e39_41, e39_44, e39_45, e39_46, e39_47, e39_50, e39_53, e39_54, e39_55, e39_56, e39_59, e39_62, e39_63, e39_64, e39_67, zgF, zgA, zgR, zisO, zpush, zopt_some, ↓reduceIte, List.getElem?_cons_succ, List.getElem?_cons_zero, beq_self_eq_true, true_and, and_true, Bool.true_and, Bool.and_true, Bool.false_and, Bool.and_false, nI_1, not_true_eq_false, not_false_eq_true, vp_narI, hD', s0, c1, hz, zb_t, n1, h3]
      · have a1 : ¬ o < 0 := Int32.not_lt.mpr (Int32.le_trans (by decide) h3)
        have a2 : ¬ o ≤ 9999 := Int32.not_le.mpr (Int32.lt_of_lt_of_le (by decide) h3)
        simp only [e39_0, e39_1, e39_4, e39_5, e39_8, e39_11, e39_12, e39_13, e39_14, e39_17, e39_18, e39_21, e39_24, e39_26, e39_27, e39_28, e39_31, e39_32, e39_35, e39_38, e39_40, e39_41, e39_44, e39_45, e39_46, e39_47, e39_50, e39_53, e39_54, e39_55, e39_56, e39_59, e39_62, e39_63, e39_64, e39_67, zgF, zgA, zgR, zisO, zpush, zopt_some, ↓reduceIte, List.getElem?_cons_succ, List.getElem?_cons_zero, beq_self_eq_true, true_and, and_true, Bool.true_and, Bool.and_true, Bool.false_and, Bool.and_false, nI_1, not_true_eq_false, not_false_eq_true, vp_narI, hD', s0, c1, hz, zb_t, n1, a1, a2]
  · rw [if_neg hz]
    rw [Bool.not_eq_true] at hz
    simp only [e39_0, e39_1, e39_4, e39_5, e39_8, e39_11, e39_12, e39_13, e39_14, e39_17, e39_18, e39_21, e39_24, e39_26, e39_27, e39_28, e39_31, e39_32, e39_35, e39_38, e39_40, e39_41, e39_44, e39_45, e39_46, e39_47, e39_50, e39_53, e39_54, e39_55, e39_56, e39_59, e39_62, e39_63, e39_64, e39_67, zgF, zgA, zgR, zisO, zpush, zopt_some, ↓reduceIte, List.getElem?_cons_succ, List.getElem?_cons_zero, beq_self_eq_true, true_and, and_true, Bool.true_and, Bool.and_true, Bool.false_and, Bool.and_false, nI_1, not_true_eq_false, not_false_eq_true, vp_narI, hD', s0, c1, hz, zb_f]
end ZC
end
