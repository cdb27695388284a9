/-! what the model answers -/
section
set_option maxRecDepth 100000
theorem andnot2 (S A B : Int32) : (S &&& (A ^^^ (-1))) &&& (B ^^^ (-1)) = S &&& ((A ||| B) ^^^ (-1)) := by
  apply Int32.toBitVec_inj.mp
  simp only [Int32.toBitVec_and, Int32.toBitVec_or, Int32.toBitVec_xor]
  rw [show (-1 : Int32).toBitVec = BitVec.allOnes 32 from rfl]
  ext i
  simp only [BitVec.getElem_and, BitVec.getElem_or, BitVec.getElem_xor, BitVec.getElem_allOnes, Bool.xor_true, Bool.not_or, Bool.and_assoc]
theorem zinb_2 (w : Int32) : (zinb w 2 = true) = (w = 0 ∨ w = 1) := by
  apply propext
  constructor
  · intro h
    obtain ⟨k, hk, rfl⟩ := zinb_ex h (by decide)
    rcases (show k = 0 ∨ k = 1 by omega) with rfl | rfl
    · exact Or.inl rfl
    · exact Or.inr rfl
  · intro h; rcases h with rfl | rfl <;> decide
section ZC
variable {h : List zC} {z : Nat × (Nat × (Nat → Int32))} {M : Nat → Nat → Int32} {Q : Option Value → zX → Prop} {g : Nat → Int32}
theorem c_M_ofServer {s w : Int32} (hM : zMM h M) (hg : zG g) (eg : M 0 = g) (hQ : ∀ h' M', zMv [1, 6, 7, 8, 9, 10, 11, 12, 13] h M h' M' → Q (some (.int (qOf g s w))) (h', z)) : Ev 122 0 [.ref 108, .int s, .int w] [] (h, z) Q := by
  obtain ⟨o0, fd0, fd1, fd2, fd3, fd4, fd5, fd6, fd7, fd8, fd9, fd10, fd11, fd12, fd13, fd14, fd15, fd16, fd17, fd18, fd19, fd20, a0, a1, a2, a4, a5, a6, a7, a9, a10, a11, a14⟩ := hM.q
  have hV := fun (Q : Option Value → zX → Prop) => c_M_isServer (s := s) (z := z) (Q := Q) hM (by rw [eg]; exact hg)
  rw [eg] at hV
  have b2 := hg.2.2.1.2
  have n1 : ¬ (1 : Int32) = 0 := by decide
  by_cases hz : zinb s (gN g 2) = true
  · obtain ⟨j, hj, rfl⟩ := zinb_ex hz (by omega)
    have e2 : (nI j).toNatClampNeg = j := nI_clamp (by omega)
    have e3 : zinb (nI j) 12 = true := zinb_nI (by omega) (by decide)
    have eq : qOf g (nI j) w = qOfI g j w := by unfold qOf; rw [if_pos hz, e2]
    rw [eq] at hQ
    simp only [e122_0, e122_1, e122_2, e122_5, e122_8, e122_9, e122_10, e122_11, e122_14, e122_56, e122_57, e122_60, e122_61, e122_62, e122_63, e122_64, e122_65, e122_66, e122_69, e122_71, e122_72, e122_73, e122_74, e122_75, e122_76, e122_79, e122_81, e122_82, e122_83, e122_84, e122_85, e122_86, e122_89, e122_90, e122_91, e122_92, e122_93, e122_94, e122_97, e122_98, e122_99, e122_102, e122_103, e122_104, e122_105, e122_106, e122_107, e122_110, e122_111, e122_113, zpush, zopt_some, ↓reduceIte, List.getElem?_cons_succ, List.getElem?_cons_zero, beq_self_eq_true, true_and, and_true, Bool.true_and, Bool.and_true, Bool.false_and, Bool.and_false, nI_1, not_true_eq_false, not_false_eq_true, vp_narI, o0, ↓fd0, ↓fd1, ↓fd2, ↓fd3, ↓fd4, ↓fd5, ↓fd6, ↓fd7, ↓fd8, ↓fd9, ↓fd10, ↓fd11, ↓fd12, ↓fd13, ↓fd14, ↓fd15, ↓fd16, ↓fd17, ↓fd18, ↓fd19, ↓fd20, hV, hz, zb_t, n1, not_false_eq_true]
    refine c_M_findLoads hM hg eg (fun h1 M1 V1 g1 L1 => ?_)
    obtain ⟨o0, fd0, fd1, fd2, fd3, fd4, fd5, fd6, fd7, fd8, fd9, fd10, fd11, fd12, fd13, fd14, fd15, fd16, fd17, fd18, fd19, fd20, a0, a1, a2, a4, a5, a6, a7, a9, a10, a11, a14⟩ := V1.mm.q
    rw [g1] at a0
    have hQ := hQ h1 M1 (V1.mono rfl)
    have i1 : zinb (nI (5 + j)) 484 = true := zinb_nI (by omega) (by decide)
    have i2 : (nI (5 + j)).toNatClampNeg = 5 + j := nI_clamp (by omega)
    have i3 : zinb (nI (17 + j)) 484 = true := zinb_nI (by omega) (by decide)
    have i4 : (nI (17 + j)).toNatClampNeg = 17 + j := nI_clamp (by omega)
    have i5 : zinb (nI (29 + j)) 484 = true := zinb_nI (by omega) (by decide)
    have i6 : (nI (29 + j)).toNatClampNeg = 29 + j := nI_clamp (by omega)
    have c1 := fun (Q : Option Value → zX → Prop) => c_M_fairShare (z := z) (Q := Q) V1.mm hg g1 hj L1
    have c2 := fun (Q : Option Value → zX → Prop) => c_M_pinnedTo (s := nI j) (z := z) (Q := Q) V1.mm (by rw [g1]; exact hg)
    rw [g1] at c2
    rcases zsw (w := w) 6 (by decide) with ⟨k, hk, rfl⟩ | ho
    · rcases (show k = 0 ∨ k = 1 ∨ k = 2 ∨ k = 3 ∨ k = 4 ∨ k = 5 ∨ k = 6 by omega) with rfl | rfl | rfl | rfl | rfl | rfl | rfl
      · rw [show qOfI g j (nI 0) = g (5 + j) from rfl] at hQ
        simp only [e122_0, e122_1, e122_2, e122_5, e122_8, e122_9, e122_10, e122_11, e122_14, e122_15_c0, e122_15_c1, e122_15_c2, e122_15_c3, e122_15_c4, e122_15_c5, e122_15_c6, e122_56, e122_57, e122_60, e122_61, e122_62, e122_63, e122_64, e122_65, e122_66, e122_69, e122_71, e122_72, e122_73, e122_74, e122_75, e122_76, e122_79, e122_81, e122_82, e122_83, e122_84, e122_85, e122_86, e122_89, e122_90, e122_91, e122_92, e122_93, e122_94, e122_97, e122_98, e122_99, e122_102, e122_103, e122_104, e122_105, e122_106, e122_107, e122_110, e122_111, e122_113, zpush, zopt_some, ↓reduceIte, List.getElem?_cons_succ, List.getElem?_cons_zero, beq_self_eq_true, true_and, and_true, Bool.true_and, Bool.and_true, Bool.false_and, Bool.and_false, nI_1, not_true_eq_false, not_false_eq_true, vp_narI, k5, k17, k29, k41, k81, k121, j484_0, cl_0, j484_1, cl_1, j484_2, cl_2, j484_3, cl_3, j484_4, cl_4, o0, ↓fd0, ↓fd1, ↓fd2, ↓fd3, ↓fd4, ↓fd5, ↓fd6, ↓fd7, ↓fd8, ↓fd9, ↓fd10, ↓fd11, ↓fd12, ↓fd13, ↓fd14, ↓fd15, ↓fd16, ↓fd17, ↓fd18, ↓fd19, ↓fd20, ↓a0, show nI 0 = (0 : Int32) from rfl, i1, i2]
        exact hQ
      · rw [show qOfI g j (nI 1) = g (17 + j) from rfl] at hQ
        simp only [e122_0, e122_1, e122_2, e122_5, e122_8, e122_9, e122_10, e122_11, e122_14, e122_15_c0, e122_15_c1, e122_15_c2, e122_15_c3, e122_15_c4, e122_15_c5, e122_15_c6, e122_56, e122_57, e122_60, e122_61, e122_62, e122_63, e122_64, e122_65, e122_66, e122_69, e122_71, e122_72, e122_73, e122_74, e122_75, e122_76, e122_79, e122_81, e122_82, e122_83, e122_84, e122_85, e122_86, e122_89, e122_90, e122_91, e122_92, e122_93, e122_94, e122_97, e122_98, e122_99, e122_102, e122_103, e122_104, e122_105, e122_106, e122_107, e122_110, e122_111, e122_113, zpush, zopt_some, ↓reduceIte, List.getElem?_cons_succ, List.getElem?_cons_zero, beq_self_eq_true, true_and, and_true, Bool.true_and, Bool.and_true, Bool.false_and, Bool.and_false, nI_1, not_true_eq_false, not_false_eq_true, vp_narI, k5, k17, k29, k41, k81, k121, j484_0, cl_0, j484_1, cl_1, j484_2, cl_2, j484_3, cl_3, j484_4, cl_4, o0, ↓fd0, ↓fd1, ↓fd2, ↓fd3, ↓fd4, ↓fd5, ↓fd6, ↓fd7, ↓fd8, ↓fd9, ↓fd10, ↓fd11, ↓fd12, ↓fd13, ↓fd14, ↓fd15, ↓fd16, ↓fd17, ↓fd18, ↓fd19, ↓fd20, ↓a0, show nI 1 = (1 : Int32) from rfl, i3, i4]
        exact hQ
      · rw [show qOfI g j (nI 2) = g (29 + j) from rfl] at hQ
        simp only [e122_0, e122_1, e122_2, e122_5, e122_8, e122_9, e122_10, e122_11, e122_14, e122_15_c0, e122_15_c1, e122_15_c2, e122_15_c3, e122_15_c4, e122_15_c5, e122_15_c6, e122_56, e122_57, e122_60, e122_61, e122_62, e122_63, e122_64, e122_65, e122_66, e122_69, e122_71, e122_72, e122_73, e122_74, e122_75, e122_76, e122_79, e122_81, e122_82, e122_83, e122_84, e122_85, e122_86, e122_89, e122_90, e122_91, e122_92, e122_93, e122_94, e122_97, e122_98, e122_99, e122_102, e122_103, e122_104, e122_105, e122_106, e122_107, e122_110, e122_111, e122_113, zpush, zopt_some, ↓reduceIte, List.getElem?_cons_succ, List.getElem?_cons_zero, beq_self_eq_true, true_and, and_true, Bool.true_and, Bool.and_true, Bool.false_and, Bool.and_false, nI_1, not_true_eq_false, not_false_eq_true, vp_narI, k5, k17, k29, k41, k81, k121, j484_0, cl_0, j484_1, cl_1, j484_2, cl_2, j484_3, cl_3, j484_4, cl_4, o0, ↓fd0, ↓fd1, ↓fd2, ↓fd3, ↓fd4, ↓fd5, ↓fd6, ↓fd7, ↓fd8, ↓fd9, ↓fd10, ↓fd11, ↓fd12, ↓fd13, ↓fd14, ↓fd15, ↓fd16, ↓fd17, ↓fd18, ↓fd19, ↓fd20, ↓a0, show nI 2 = (2 : Int32) from rfl, i5, i6]
        exact hQ
      · rw [show qOfI g j (nI 3) = ldF g (gN g 3) j from rfl] at hQ
        simp only [e122_0, e122_1, e122_2, e122_5, e122_8, e122_9, e122_10, e122_11, e122_14, e122_15_c0, e122_15_c1, e122_15_c2, e122_15_c3, e122_15_c4, e122_15_c5, e122_15_c6, e122_56, e122_57, e122_60, e122_61, e122_62, e122_63, e122_64, e122_65, e122_66, e122_69, e122_71, e122_72, e122_73, e122_74, e122_75, e122_76, e122_79, e122_81, e122_82, e122_83, e122_84, e122_85, e122_86, e122_89, e122_90, e122_91, e122_92, e122_93, e122_94, e122_97, e122_98, e122_99, e122_102, e122_103, e122_104, e122_105, e122_106, e122_107, e122_110, e122_111, e122_113, zpush, zopt_some, ↓reduceIte, List.getElem?_cons_succ, List.getElem?_cons_zero, beq_self_eq_true, true_and, and_true, Bool.true_and, Bool.and_true, Bool.false_and, Bool.and_false, nI_1, not_true_eq_false, not_false_eq_true, vp_narI, k5, k17, k29, k41, k81, k121, j484_0, cl_0, j484_1, cl_1, j484_2, cl_2, j484_3, cl_3, j484_4, cl_4, o0, ↓fd0, ↓fd1, ↓fd2, ↓fd3, ↓fd4, ↓fd5, ↓fd6, ↓fd7, ↓fd8, ↓fd9, ↓fd10, ↓fd11, ↓fd12, ↓fd13, ↓fd14, ↓fd15, ↓fd16, ↓fd17, ↓fd18, ↓fd19, ↓fd20, ↓a10, show nI 3 = (3 : Int32) from rfl, e2, e3, L1.1 j (by omega)]
        exact hQ
      · rw [show qOfI g j (nI 4) = fsh g j from rfl] at hQ
        simp only [e122_0, e122_1, e122_2, e122_5, e122_8, e122_9, e122_10, e122_11, e122_14, e122_15_c0, e122_15_c1, e122_15_c2, e122_15_c3, e122_15_c4, e122_15_c5, e122_15_c6, e122_56, e122_57, e122_60, e122_61, e122_62, e122_63, e122_64, e122_65, e122_66, e122_69, e122_71, e122_72, e122_73, e122_74, e122_75, e122_76, e122_79, e122_81, e122_82, e122_83, e122_84, e122_85, e122_86, e122_89, e122_90, e122_91, e122_92, e122_93, e122_94, e122_97, e122_98, e122_99, e122_102, e122_103, e122_104, e122_105, e122_106, e122_107, e122_110, e122_111, e122_113, zpush, zopt_some, ↓reduceIte, List.getElem?_cons_succ, List.getElem?_cons_zero, beq_self_eq_true, true_and, and_true, Bool.true_and, Bool.and_true, Bool.false_and, Bool.and_false, nI_1, not_true_eq_false, not_false_eq_true, vp_narI, k5, k17, k29, k41, k81, k121, j484_0, cl_0, j484_1, cl_1, j484_2, cl_2, j484_3, cl_3, j484_4, cl_4, o0, ↓fd0, ↓fd1, ↓fd2, ↓fd3, ↓fd4, ↓fd5, ↓fd6, ↓fd7, ↓fd8, ↓fd9, ↓fd10, ↓fd11, ↓fd12, ↓fd13, ↓fd14, ↓fd15, ↓fd16, ↓fd17, ↓fd18, ↓fd19, ↓fd20, show nI 4 = (4 : Int32) from rfl, c1]
        exact hQ
      · rw [show qOfI g j (nI 5) = nfc g (nI j) (gN g 3) from rfl] at hQ
        simp only [e122_0, e122_1, e122_2, e122_5, e122_8, e122_9, e122_10, e122_11, e122_14, e122_15_c0, e122_15_c1, e122_15_c2, e122_15_c3, e122_15_c4, e122_15_c5, e122_15_c6, e122_56, e122_57, e122_60, e122_61, e122_62, e122_63, e122_64, e122_65, e122_66, e122_69, e122_71, e122_72, e122_73, e122_74, e122_75, e122_76, e122_79, e122_81, e122_82, e122_83, e122_84, e122_85, e122_86, e122_89, e122_90, e122_91, e122_92, e122_93, e122_94, e122_97, e122_98, e122_99, e122_102, e122_103, e122_104, e122_105, e122_106, e122_107, e122_110, e122_111, e122_113, zpush, zopt_some, ↓reduceIte, List.getElem?_cons_succ, List.getElem?_cons_zero, beq_self_eq_true, true_and, and_true, Bool.true_and, Bool.and_true, Bool.false_and, Bool.and_false, nI_1, not_true_eq_false, not_false_eq_true, vp_narI, k5, k17, k29, k41, k81, k121, j484_0, cl_0, j484_1, cl_1, j484_2, cl_2, j484_3, cl_3, j484_4, cl_4, o0, ↓fd0, ↓fd1, ↓fd2, ↓fd3, ↓fd4, ↓fd5, ↓fd6, ↓fd7, ↓fd8, ↓fd9, ↓fd10, ↓fd11, ↓fd12, ↓fd13, ↓fd14, ↓fd15, ↓fd16, ↓fd17, ↓fd18, ↓fd19, ↓fd20, ↓a11, show nI 5 = (5 : Int32) from rfl, e2, e3, L1.2.1 j (by omega)]
        exact hQ
      · rw [show qOfI g j (nI 6) = npin g (nI j) (gN g 3) from rfl] at hQ
        simp only [e122_0, e122_1, e122_2, e122_5, e122_8, e122_9, e122_10, e122_11, e122_14, e122_15_c0, e122_15_c1, e122_15_c2, e122_15_c3, e122_15_c4, e122_15_c5, e122_15_c6, e122_56, e122_57, e122_60, e122_61, e122_62, e122_63, e122_64, e122_65, e122_66, e122_69, e122_71, e122_72, e122_73, e122_74, e122_75, e122_76, e122_79, e122_81, e122_82, e122_83, e122_84, e122_85, e122_86, e122_89, e122_90, e122_91, e122_92, e122_93, e122_94, e122_97, e122_98, e122_99, e122_102, e122_103, e122_104, e122_105, e122_106, e122_107, e122_110, e122_111, e122_113, zpush, zopt_some, ↓reduceIte, List.getElem?_cons_succ, List.getElem?_cons_zero, beq_self_eq_true, true_and, and_true, Bool.true_and, Bool.and_true, Bool.false_and, Bool.and_false, nI_1, not_true_eq_false, not_false_eq_true, vp_narI, k5, k17, k29, k41, k81, k121, j484_0, cl_0, j484_1, cl_1, j484_2, cl_2, j484_3, cl_3, j484_4, cl_4, o0, ↓fd0, ↓fd1, ↓fd2, ↓fd3, ↓fd4, ↓fd5, ↓fd6, ↓fd7, ↓fd8, ↓fd9, ↓fd10, ↓fd11, ↓fd12, ↓fd13, ↓fd14, ↓fd15, ↓fd16, ↓fd17, ↓fd18, ↓fd19, ↓fd20, show nI 6 = (6 : Int32) from rfl, c2]
        exact hQ
    · have d := fun {l0 : Nat} {l1 l2 : Int32} {X : zX} {Q : Option Value → zX → Prop} => @e122_15_d l0 l1 l2 w X Q ho
      have eq : qOfI g j w = -2 := by
        unfold qOfI
        rw [if_neg (show ¬ w = 0 from zsw_ne (k := 0) (by decide) (by decide) ho), if_neg (show ¬ w = 1 from zsw_ne (k := 1) (by decide) (by decide) ho), if_neg (show ¬ w = 2 from zsw_ne (k := 2) (by decide) (by decide) ho), if_neg (show ¬ w = 3 from zsw_ne (k := 3) (by decide) (by decide) ho), if_neg (show ¬ w = 4 from zsw_ne (k := 4) (by decide) (by decide) ho), if_neg (show ¬ w = 5 from zsw_ne (k := 5) (by decide) (by decide) ho), if_neg (show ¬ w = 6 from zsw_ne (k := 6) (by decide) (by decide) ho)]
      rw [eq] at hQ
      simp only [e122_0, e122_1, e122_2, e122_5, e122_8, e122_9, e122_10, e122_11, e122_14, e122_56, e122_57, e122_60, e122_61, e122_62, e122_63, e122_64, e122_65, e122_66, e122_69, e122_71, e122_72, e122_73, e122_74, e122_75, e122_76, e122_79, e122_81, e122_82, e122_83, e122_84, e122_85, e122_86, e122_89, e122_90, e122_91, e122_92, e122_93, e122_94, e122_97, e122_98, e122_99, e122_102, e122_103, e122_104, e122_105, e122_106, e122_107, e122_110, e122_111, e122_113, zpush, zopt_some, ↓reduceIte, List.getElem?_cons_succ, List.getElem?_cons_zero, beq_self_eq_true, true_and, and_true, Bool.true_and, Bool.and_true, Bool.false_and, Bool.and_false, nI_1, not_true_eq_false, not_false_eq_true, vp_narI, d]
      exact hQ
  · have eq : qOf g s w = -1 := by unfold qOf; rw [if_neg hz]
    rw [eq] at hQ
    rw [Bool.not_eq_true] at hz
    simp only [e122_0, e122_1, e122_2, e122_5, e122_8, e122_9, e122_11, e122_14, e122_15_c0, e122_15_c1, e122_15_c2, e122_15_c3, e122_15_c4, e122_15_c5, e122_15_c6, e122_56, e122_57, e122_60, e122_61, e122_62, e122_63, e122_64, e122_65, e122_66, e122_69, e122_71, e122_72, e122_73, e122_74, e122_75, e122_76, e122_79, e122_81, e122_82, e122_83, e122_84, e122_85, e122_86, e122_89, e122_90, e122_91, e122_92, e122_93, e122_94, e122_97, e122_98, e122_99, e122_102, e122_103, e122_104, e122_105, e122_106, e122_107, e122_110, e122_111, e122_113, zpush, zopt_some, ↓reduceIte, List.getElem?_cons_succ, List.getElem?_cons_zero, beq_self_eq_true, true_and, and_true, Bool.true_and, Bool.and_true, Bool.false_and, Bool.and_false, nI_1, not_true_eq_false, not_false_eq_true, vp_narI, o0, ↓fd0, ↓fd1, ↓fd2, ↓fd3, ↓fd4, ↓fd5, ↓fd6, ↓fd7, ↓fd8, ↓fd9, ↓fd10, ↓fd11, ↓fd12, ↓fd13, ↓fd14, ↓fd15, ↓fd16, ↓fd17, ↓fd18, ↓fd19, ↓fd20, hV, hz, zb_f]
    exact hQ h M hM.rf
theorem c_M_count {w : Int32} {l n : Nat} (hM : zMM h M) (hg : zG g) (eg : M 0 = g) (hl : M 15 0 = nI l) (hn : M 3 0 = nI n) (hQ : ∀ h' M', zMv [1, 6, 7, 8, 9, 10, 11, 12, 13] h M h' M' → Q (some (.int (qCt g l n w))) (h', z)) : Ev 130 0 [.ref 108, .int w] [] (h, z) Q := by
  obtain ⟨o0, fd0, fd1, fd2, fd3, fd4, fd5, fd6, fd7, fd8, fd9, fd10, fd11, fd12, fd13, fd14, fd15, fd16, fd17, fd18, fd19, fd20, a0, a1, a2, a4, a5, a6, a7, a9, a10, a11, a14⟩ := hM.q
  have b2 := hg.2.2.1.2
  simp only [e130_0, e130_1, e130_4, e130_68, e130_69, e130_72, e130_73, e130_74, e130_75, e130_76, e130_79, e130_80, e130_81, e130_82, e130_83, e130_86, e130_87, e130_88, e130_91, e130_92, e130_93, e130_96, e130_97, e130_98, e130_99, e130_100, e130_103, e130_104, e130_105, e130_108, e130_109, e130_110, e130_113, e130_114, e130_115, e130_118, e130_119, e130_120, e130_121, e130_122, e130_125, e130_126, e130_127, e130_128, e130_129, e130_132, e130_133, e130_134, e130_137, e130_138, e130_140, zpush, zopt_some, ↓reduceIte, List.getElem?_cons_succ, List.getElem?_cons_zero, beq_self_eq_true, true_and, and_true, Bool.true_and, Bool.and_true, Bool.false_and, Bool.and_false, nI_1, not_true_eq_false, not_false_eq_true, vp_narI, o0, ↓fd0, ↓fd1, ↓fd2, ↓fd3, ↓fd4, ↓fd5, ↓fd6, ↓fd7, ↓fd8, ↓fd9, ↓fd10, ↓fd11, ↓fd12, ↓fd13, ↓fd14, ↓fd15, ↓fd16, ↓fd17, ↓fd18, ↓fd19, ↓fd20]
  refine c_M_findLoads hM hg eg (fun h1 M1 V1 g1 L1 => ?_)
  obtain ⟨o0, fd0, fd1, fd2, fd3, fd4, fd5, fd6, fd7, fd8, fd9, fd10, fd11, fd12, fd13, fd14, fd15, fd16, fd17, fd18, fd19, fd20, a0, a1, a2, a4, a5, a6, a7, a9, a10, a11, a14⟩ := V1.mm.q
  rw [g1] at a0
  have hQ := hQ h1 M1 (V1.mono rfl)
  have hl : M1 15 0 = nI l := (congrFun (V1.k 15 rfl) 0).trans hl
  have hn : M1 3 0 = nI n := (congrFun (V1.k 3 rfl) 0).trans hn
  have c1 := fun (Q : Option Value → zX → Prop) => c_M_takingPart (z := z) (Q := Q) V1.mm (by rw [g1]; exact hg)
  have c2 := fun (Q : Option Value → zX → Prop) => c_M_weights (z := z) (Q := Q) V1.mm (by rw [g1]; exact hg)
  have c3 := fun (Q : Option Value → zX → Prop) => c_M_fullest (z := z) (Q := Q) V1.mm hg g1 L1
  rw [g1] at c1 c2
  have eb : encB (mst g (gN g 2)) = bI (mst g (gN g 2)) := by cases mst g (gN g 2) <;> rfl
  obtain ⟨-, -, L2, L3⟩ := L1
  rcases zsw (w := w) 11 (by decide) with ⟨k, hk, rfl⟩ | ho
  · rcases (show k = 0 ∨ k = 1 ∨ k = 2 ∨ k = 3 ∨ k = 4 ∨ k = 5 ∨ k = 6 ∨ k = 7 ∨ k = 8 ∨ k = 9 ∨ k = 10 ∨ k = 11 by omega) with rfl | rfl | rfl | rfl | rfl | rfl | rfl | rfl | rfl | rfl | rfl | rfl
    · rw [show qCt g l n (nI 0) = g 2 from rfl] at hQ
      simp only [e130_0, e130_1, e130_4, e130_5_c0, e130_5_c1, e130_5_c2, e130_5_c3, e130_5_c4, e130_5_c5, e130_5_c6, e130_5_c7, e130_5_c8, e130_5_c9, e130_5_c10, e130_5_c11, e130_68, e130_69, e130_72, e130_73, e130_74, e130_75, e130_76, e130_79, e130_80, e130_81, e130_82, e130_83, e130_86, e130_87, e130_88, e130_91, e130_92, e130_93, e130_96, e130_97, e130_98, e130_99, e130_100, e130_103, e130_104, e130_105, e130_108, e130_109, e130_110, e130_113, e130_114, e130_115, e130_118, e130_119, e130_120, e130_121, e130_122, e130_125, e130_126, e130_127, e130_128, e130_129, e130_132, e130_133, e130_134, e130_137, e130_138, e130_140, zpush, zopt_some, ↓reduceIte, List.getElem?_cons_succ, List.getElem?_cons_zero, beq_self_eq_true, true_and, and_true, Bool.true_and, Bool.and_true, Bool.false_and, Bool.and_false, nI_1, not_true_eq_false, not_false_eq_true, vp_narI, k5, k17, k29, k41, k81, k121, j484_0, cl_0, j484_1, cl_1, j484_2, cl_2, j484_3, cl_3, j484_4, cl_4, o0, ↓fd0, ↓fd1, ↓fd2, ↓fd3, ↓fd4, ↓fd5, ↓fd6, ↓fd7, ↓fd8, ↓fd9, ↓fd10, ↓fd11, ↓fd12, ↓fd13, ↓fd14, ↓fd15, ↓fd16, ↓fd17, ↓fd18, ↓fd19, ↓fd20, ↓a0, show nI 0 = (0 : Int32) from rfl]
      exact hQ
    · rw [show qCt g l n (nI 1) = g 3 from rfl] at hQ
      simp only [e130_0, e130_1, e130_4, e130_5_c0, e130_5_c1, e130_5_c2, e130_5_c3, e130_5_c4, e130_5_c5, e130_5_c6, e130_5_c7, e130_5_c8, e130_5_c9, e130_5_c10, e130_5_c11, e130_68, e130_69, e130_72, e130_73, e130_74, e130_75, e130_76, e130_79, e130_80, e130_81, e130_82, e130_83, e130_86, e130_87, e130_88, e130_91, e130_92, e130_93, e130_96, e130_97, e130_98, e130_99, e130_100, e130_103, e130_104, e130_105, e130_108, e130_109, e130_110, e130_113, e130_114, e130_115, e130_118, e130_119, e130_120, e130_121, e130_122, e130_125, e130_126, e130_127, e130_128, e130_129, e130_132, e130_133, e130_134, e130_137, e130_138, e130_140, zpush, zopt_some, ↓reduceIte, List.getElem?_cons_succ, List.getElem?_cons_zero, beq_self_eq_true, true_and, and_true, Bool.true_and, Bool.and_true, Bool.false_and, Bool.and_false, nI_1, not_true_eq_false, not_false_eq_true, vp_narI, k5, k17, k29, k41, k81, k121, j484_0, cl_0, j484_1, cl_1, j484_2, cl_2, j484_3, cl_3, j484_4, cl_4, o0, ↓fd0, ↓fd1, ↓fd2, ↓fd3, ↓fd4, ↓fd5, ↓fd6, ↓fd7, ↓fd8, ↓fd9, ↓fd10, ↓fd11, ↓fd12, ↓fd13, ↓fd14, ↓fd15, ↓fd16, ↓fd17, ↓fd18, ↓fd19, ↓fd20, ↓a0, show nI 1 = (1 : Int32) from rfl]
      exact hQ
    · rw [show qCt g l n (nI 2) = tot g (gN g 3) from rfl] at hQ
      simp only [e130_0, e130_1, e130_4, e130_5_c0, e130_5_c1, e130_5_c2, e130_5_c3, e130_5_c4, e130_5_c5, e130_5_c6, e130_5_c7, e130_5_c8, e130_5_c9, e130_5_c10, e130_5_c11, e130_68, e130_69, e130_72, e130_73, e130_74, e130_75, e130_76, e130_79, e130_80, e130_81, e130_82, e130_83, e130_86, e130_87, e130_88, e130_91, e130_92, e130_93, e130_96, e130_97, e130_98, e130_99, e130_100, e130_103, e130_104, e130_105, e130_108, e130_109, e130_110, e130_113, e130_114, e130_115, e130_118, e130_119, e130_120, e130_121, e130_122, e130_125, e130_126, e130_127, e130_128, e130_129, e130_132, e130_133, e130_134, e130_137, e130_138, e130_140, zpush, zopt_some, ↓reduceIte, List.getElem?_cons_succ, List.getElem?_cons_zero, beq_self_eq_true, true_and, and_true, Bool.true_and, Bool.and_true, Bool.false_and, Bool.and_false, nI_1, not_true_eq_false, not_false_eq_true, vp_narI, k5, k17, k29, k41, k81, k121, j484_0, cl_0, j484_1, cl_1, j484_2, cl_2, j484_3, cl_3, j484_4, cl_4, o0, ↓fd0, ↓fd1, ↓fd2, ↓fd3, ↓fd4, ↓fd5, ↓fd6, ↓fd7, ↓fd8, ↓fd9, ↓fd10, ↓fd11, ↓fd12, ↓fd13, ↓fd14, ↓fd15, ↓fd16, ↓fd17, ↓fd18, ↓fd19, ↓fd20, L2, show nI 2 = (2 : Int32) from rfl]
      exact hQ
    · rw [show qCt g l n (nI 3) = nbl g (g 0) (gN g 3) from rfl] at hQ
      simp only [e130_0, e130_1, e130_4, e130_5_c0, e130_5_c1, e130_5_c2, e130_5_c3, e130_5_c4, e130_5_c5, e130_5_c6, e130_5_c7, e130_5_c8, e130_5_c9, e130_5_c10, e130_5_c11, e130_68, e130_69, e130_72, e130_73, e130_74, e130_75, e130_76, e130_79, e130_80, e130_81, e130_82, e130_83, e130_86, e130_87, e130_88, e130_91, e130_92, e130_93, e130_96, e130_97, e130_98, e130_99, e130_100, e130_103, e130_104, e130_105, e130_108, e130_109, e130_110, e130_113, e130_114, e130_115, e130_118, e130_119, e130_120, e130_121, e130_122, e130_125, e130_126, e130_127, e130_128, e130_129, e130_132, e130_133, e130_134, e130_137, e130_138, e130_140, zpush, zopt_some, ↓reduceIte, List.getElem?_cons_succ, List.getElem?_cons_zero, beq_self_eq_true, true_and, and_true, Bool.true_and, Bool.and_true, Bool.false_and, Bool.and_false, nI_1, not_true_eq_false, not_false_eq_true, vp_narI, k5, k17, k29, k41, k81, k121, j484_0, cl_0, j484_1, cl_1, j484_2, cl_2, j484_3, cl_3, j484_4, cl_4, o0, ↓fd0, ↓fd1, ↓fd2, ↓fd3, ↓fd4, ↓fd5, ↓fd6, ↓fd7, ↓fd8, ↓fd9, ↓fd10, ↓fd11, ↓fd12, ↓fd13, ↓fd14, ↓fd15, ↓fd16, ↓fd17, ↓fd18, ↓fd19, ↓fd20, L3, show nI 3 = (3 : Int32) from rfl]
      exact hQ
    · rw [show qCt g l n (nI 4) = g 4 from rfl] at hQ
      simp only [e130_0, e130_1, e130_4, e130_5_c0, e130_5_c1, e130_5_c2, e130_5_c3, e130_5_c4, e130_5_c5, e130_5_c6, e130_5_c7, e130_5_c8, e130_5_c9, e130_5_c10, e130_5_c11, e130_68, e130_69, e130_72, e130_73, e130_74, e130_75, e130_76, e130_79, e130_80, e130_81, e130_82, e130_83, e130_86, e130_87, e130_88, e130_91, e130_92, e130_93, e130_96, e130_97, e130_98, e130_99, e130_100, e130_103, e130_104, e130_105, e130_108, e130_109, e130_110, e130_113, e130_114, e130_115, e130_118, e130_119, e130_120, e130_121, e130_122, e130_125, e130_126, e130_127, e130_128, e130_129, e130_132, e130_133, e130_134, e130_137, e130_138, e130_140, zpush, zopt_some, ↓reduceIte, List.getElem?_cons_succ, List.getElem?_cons_zero, beq_self_eq_true, true_and, and_true, Bool.true_and, Bool.and_true, Bool.false_and, Bool.and_false, nI_1, not_true_eq_false, not_false_eq_true, vp_narI, k5, k17, k29, k41, k81, k121, j484_0, cl_0, j484_1, cl_1, j484_2, cl_2, j484_3, cl_3, j484_4, cl_4, o0, ↓fd0, ↓fd1, ↓fd2, ↓fd3, ↓fd4, ↓fd5, ↓fd6, ↓fd7, ↓fd8, ↓fd9, ↓fd10, ↓fd11, ↓fd12, ↓fd13, ↓fd14, ↓fd15, ↓fd16, ↓fd17, ↓fd18, ↓fd19, ↓fd20, ↓a0, show nI 4 = (4 : Int32) from rfl]
      exact hQ
    · rw [show qCt g l n (nI 5) = ntp g (gN g 2) from rfl] at hQ
      simp only [e130_0, e130_1, e130_4, e130_5_c0, e130_5_c1, e130_5_c2, e130_5_c3, e130_5_c4, e130_5_c5, e130_5_c6, e130_5_c7, e130_5_c8, e130_5_c9, e130_5_c10, e130_5_c11, e130_68, e130_69, e130_72, e130_73, e130_74, e130_75, e130_76, e130_79, e130_80, e130_81, e130_82, e130_83, e130_86, e130_87, e130_88, e130_91, e130_92, e130_93, e130_96, e130_97, e130_98, e130_99, e130_100, e130_103, e130_104, e130_105, e130_108, e130_109, e130_110, e130_113, e130_114, e130_115, e130_118, e130_119, e130_120, e130_121, e130_122, e130_125, e130_126, e130_127, e130_128, e130_129, e130_132, e130_133, e130_134, e130_137, e130_138, e130_140, zpush, zopt_some, ↓reduceIte, List.getElem?_cons_succ, List.getElem?_cons_zero, beq_self_eq_true, true_and, and_true, Bool.true_and, Bool.and_true, Bool.false_and, Bool.and_false, nI_1, not_true_eq_false, not_false_eq_true, vp_narI, k5, k17, k29, k41, k81, k121, j484_0, cl_0, j484_1, cl_1, j484_2, cl_2, j484_3, cl_3, j484_4, cl_4, o0, ↓fd0, ↓fd1, ↓fd2, ↓fd3, ↓fd4, ↓fd5, ↓fd6, ↓fd7, ↓fd8, ↓fd9, ↓fd10, ↓fd11, ↓fd12, ↓fd13, ↓fd14, ↓fd15, ↓fd16, ↓fd17, ↓fd18, ↓fd19, ↓fd20, c1, show nI 5 = (5 : Int32) from rfl]
      exact hQ
    · rw [show qCt g l n (nI 6) = wsum g (gN g 2) from rfl] at hQ
      simp only [e130_0, e130_1, e130_4, e130_5_c0, e130_5_c1, e130_5_c2, e130_5_c3, e130_5_c4, e130_5_c5, e130_5_c6, e130_5_c7, e130_5_c8, e130_5_c9, e130_5_c10, e130_5_c11, e130_68, e130_69, e130_72, e130_73, e130_74, e130_75, e130_76, e130_79, e130_80, e130_81, e130_82, e130_83, e130_86, e130_87, e130_88, e130_91, e130_92, e130_93, e130_96, e130_97, e130_98, e130_99, e130_100, e130_103, e130_104, e130_105, e130_108, e130_109, e130_110, e130_113, e130_114, e130_115, e130_118, e130_119, e130_120, e130_121, e130_122, e130_125, e130_126, e130_127, e130_128, e130_129, e130_132, e130_133, e130_134, e130_137, e130_138, e130_140, zpush, zopt_some, ↓reduceIte, List.getElem?_cons_succ, List.getElem?_cons_zero, beq_self_eq_true, true_and, and_true, Bool.true_and, Bool.and_true, Bool.false_and, Bool.and_false, nI_1, not_true_eq_false, not_false_eq_true, vp_narI, k5, k17, k29, k41, k81, k121, j484_0, cl_0, j484_1, cl_1, j484_2, cl_2, j484_3, cl_3, j484_4, cl_4, o0, ↓fd0, ↓fd1, ↓fd2, ↓fd3, ↓fd4, ↓fd5, ↓fd6, ↓fd7, ↓fd8, ↓fd9, ↓fd10, ↓fd11, ↓fd12, ↓fd13, ↓fd14, ↓fd15, ↓fd16, ↓fd17, ↓fd18, ↓fd19, ↓fd20, c2, show nI 6 = (6 : Int32) from rfl]
      exact hQ
    · rw [show qCt g l n (nI 7) = encB (mst g (gN g 2)) from rfl, eb] at hQ
      simp only [e130_0, e130_1, e130_4, e130_5_c0, e130_5_c1, e130_5_c2, e130_5_c3, e130_5_c4, e130_5_c5, e130_5_c6, e130_5_c7, e130_5_c8, e130_5_c9, e130_5_c10, e130_5_c11, e130_68, e130_69, e130_72, e130_73, e130_74, e130_75, e130_76, e130_79, e130_80, e130_81, e130_82, e130_83, e130_86, e130_87, e130_88, e130_91, e130_92, e130_93, e130_96, e130_97, e130_98, e130_99, e130_100, e130_103, e130_104, e130_105, e130_108, e130_109, e130_110, e130_113, e130_114, e130_115, e130_118, e130_119, e130_120, e130_121, e130_122, e130_125, e130_126, e130_127, e130_128, e130_129, e130_132, e130_133, e130_134, e130_137, e130_138, e130_140, zpush, zopt_some, ↓reduceIte, List.getElem?_cons_succ, List.getElem?_cons_zero, beq_self_eq_true, true_and, and_true, Bool.true_and, Bool.and_true, Bool.false_and, Bool.and_false, nI_1, not_true_eq_false, not_false_eq_true, vp_narI, k5, k17, k29, k41, k81, k121, j484_0, cl_0, j484_1, cl_1, j484_2, cl_2, j484_3, cl_3, j484_4, cl_4, o0, ↓fd0, ↓fd1, ↓fd2, ↓fd3, ↓fd4, ↓fd5, ↓fd6, ↓fd7, ↓fd8, ↓fd9, ↓fd10, ↓fd11, ↓fd12, ↓fd13, ↓fd14, ↓fd15, ↓fd16, ↓fd17, ↓fd18, ↓fd19, ↓fd20, c3, show nI 7 = (7 : Int32) from rfl]
      exact hQ
    · rw [show qCt g l n (nI 8) = g 0 from rfl] at hQ
      simp only [e130_0, e130_1, e130_4, e130_5_c0, e130_5_c1, e130_5_c2, e130_5_c3, e130_5_c4, e130_5_c5, e130_5_c6, e130_5_c7, e130_5_c8, e130_5_c9, e130_5_c10, e130_5_c11, e130_68, e130_69, e130_72, e130_73, e130_74, e130_75, e130_76, e130_79, e130_80, e130_81, e130_82, e130_83, e130_86, e130_87, e130_88, e130_91, e130_92, e130_93, e130_96, e130_97, e130_98, e130_99, e130_100, e130_103, e130_104, e130_105, e130_108, e130_109, e130_110, e130_113, e130_114, e130_115, e130_118, e130_119, e130_120, e130_121, e130_122, e130_125, e130_126, e130_127, e130_128, e130_129, e130_132, e130_133, e130_134, e130_137, e130_138, e130_140, zpush, zopt_some, ↓reduceIte, List.getElem?_cons_succ, List.getElem?_cons_zero, beq_self_eq_true, true_and, and_true, Bool.true_and, Bool.and_true, Bool.false_and, Bool.and_false, nI_1, not_true_eq_false, not_false_eq_true, vp_narI, k5, k17, k29, k41, k81, k121, j484_0, cl_0, j484_1, cl_1, j484_2, cl_2, j484_3, cl_3, j484_4, cl_4, o0, ↓fd0, ↓fd1, ↓fd2, ↓fd3, ↓fd4, ↓fd5, ↓fd6, ↓fd7, ↓fd8, ↓fd9, ↓fd10, ↓fd11, ↓fd12, ↓fd13, ↓fd14, ↓fd15, ↓fd16, ↓fd17, ↓fd18, ↓fd19, ↓fd20, ↓a0, show nI 8 = (8 : Int32) from rfl]
      exact hQ
    · rw [show qCt g l n (nI 9) = g 1 from rfl] at hQ
      simp only [e130_0, e130_1, e130_4, e130_5_c0, e130_5_c1, e130_5_c2, e130_5_c3, e130_5_c4, e130_5_c5, e130_5_c6, e130_5_c7, e130_5_c8, e130_5_c9, e130_5_c10, e130_5_c11, e130_68, e130_69, e130_72, e130_73, e130_74, e130_75, e130_76, e130_79, e130_80, e130_81, e130_82, e130_83, e130_86, e130_87, e130_88, e130_91, e130_92, e130_93, e130_96, e130_97, e130_98, e130_99, e130_100, e130_103, e130_104, e130_105, e130_108, e130_109, e130_110, e130_113, e130_114, e130_115, e130_118, e130_119, e130_120, e130_121, e130_122, e130_125, e130_126, e130_127, e130_128, e130_129, e130_132, e130_133, e130_134, e130_137, e130_138, e130_140, zpush, zopt_some, ↓reduceIte, List.getElem?_cons_succ, List.getElem?_cons_zero, beq_self_eq_true, true_and, and_true, Bool.true_and, Bool.and_true, Bool.false_and, Bool.and_false, nI_1, not_true_eq_false, not_false_eq_true, vp_narI, k5, k17, k29, k41, k81, k121, j484_0, cl_0, j484_1, cl_1, j484_2, cl_2, j484_3, cl_3, j484_4, cl_4, o0, ↓fd0, ↓fd1, ↓fd2, ↓fd3, ↓fd4, ↓fd5, ↓fd6, ↓fd7, ↓fd8, ↓fd9, ↓fd10, ↓fd11, ↓fd12, ↓fd13, ↓fd14, ↓fd15, ↓fd16, ↓fd17, ↓fd18, ↓fd19, ↓fd20, ↓a0, show nI 9 = (9 : Int32) from rfl]
      exact hQ
    · rw [show qCt g l n (nI 10) = nI l from rfl] at hQ
      simp only [e130_0, e130_1, e130_4, e130_5_c0, e130_5_c1, e130_5_c2, e130_5_c3, e130_5_c4, e130_5_c5, e130_5_c6, e130_5_c7, e130_5_c8, e130_5_c9, e130_5_c10, e130_5_c11, e130_68, e130_69, e130_72, e130_73, e130_74, e130_75, e130_76, e130_79, e130_80, e130_81, e130_82, e130_83, e130_86, e130_87, e130_88, e130_91, e130_92, e130_93, e130_96, e130_97, e130_98, e130_99, e130_100, e130_103, e130_104, e130_105, e130_108, e130_109, e130_110, e130_113, e130_114, e130_115, e130_118, e130_119, e130_120, e130_121, e130_122, e130_125, e130_126, e130_127, e130_128, e130_129, e130_132, e130_133, e130_134, e130_137, e130_138, e130_140, zpush, zopt_some, ↓reduceIte, List.getElem?_cons_succ, List.getElem?_cons_zero, beq_self_eq_true, true_and, and_true, Bool.true_and, Bool.and_true, Bool.false_and, Bool.and_false, nI_1, not_true_eq_false, not_false_eq_true, vp_narI, k5, k17, k29, k41, k81, k121, j484_0, cl_0, j484_1, cl_1, j484_2, cl_2, j484_3, cl_3, j484_4, cl_4, o0, ↓fd0, ↓fd1, ↓fd2, ↓fd3, ↓fd4, ↓fd5, ↓fd6, ↓fd7, ↓fd8, ↓fd9, ↓fd10, ↓fd11, ↓fd12, ↓fd13, ↓fd14, ↓fd15, ↓fd16, ↓fd17, ↓fd18, ↓fd19, ↓fd20, hl, show nI 10 = (10 : Int32) from rfl]
      exact hQ
    · rw [show qCt g l n (nI 11) = nI n from rfl] at hQ
      simp only [e130_0, e130_1, e130_4, e130_5_c0, e130_5_c1, e130_5_c2, e130_5_c3, e130_5_c4, e130_5_c5, e130_5_c6, e130_5_c7, e130_5_c8, e130_5_c9, e130_5_c10, e130_5_c11, e130_68, e130_69, e130_72, e130_73, e130_74, e130_75, e130_76, e130_79, e130_80, e130_81, e130_82, e130_83, e130_86, e130_87, e130_88, e130_91, e130_92, e130_93, e130_96, e130_97, e130_98, e130_99, e130_100, e130_103, e130_104, e130_105, e130_108, e130_109, e130_110, e130_113, e130_114, e130_115, e130_118, e130_119, e130_120, e130_121, e130_122, e130_125, e130_126, e130_127, e130_128, e130_129, e130_132, e130_133, e130_134, e130_137, e130_138, e130_140, zpush, zopt_some, ↓reduceIte, List.getElem?_cons_succ, List.getElem?_cons_zero, beq_self_eq_true, true_and, and_true, Bool.true_and, Bool.and_true, Bool.false_and, Bool.and_false, nI_1, not_true_eq_false, not_false_eq_true, vp_narI, k5, k17, k29, k41, k81, k121, j484_0, cl_0, j484_1, cl_1, j484_2, cl_2, j484_3, cl_3, j484_4, cl_4, o0, ↓fd0, ↓fd1, ↓fd2, ↓fd3, ↓fd4, ↓fd5, ↓fd6, ↓fd7, ↓fd8, ↓fd9, ↓fd10, ↓fd11, ↓fd12, ↓fd13, ↓fd14, ↓fd15, ↓fd16, ↓fd17, ↓fd18, ↓fd19, ↓fd20, hn, show nI 11 = (11 : Int32) from rfl]
      exact hQ
  · have d := fun {l0 : Nat} {l1 : Int32} {X : zX} {Q : Option Value → zX → Prop} => @e130_5_d l0 l1 w X Q ho
    have ne := fun k (hk : k ≤ 11) => zsw_ne (w := w) (k := k) hk (by decide) ho
    have eq : qCt g l n w = -2 := by
      unfold qCt
      rw [if_neg (show ¬ w = 0 from ne 0 (by decide)), if_neg (show ¬ w = 1 from ne 1 (by decide)), if_neg (show ¬ w = 2 from ne 2 (by decide)), if_neg (show ¬ w = 3 from ne 3 (by decide)), if_neg (show ¬ w = 4 from ne 4 (by decide)), if_neg (show ¬ w = 5 from ne 5 (by decide)), if_neg (show ¬ w = 6 from ne 6 (by decide)), if_neg (show ¬ w = 7 from ne 7 (by decide)), if_neg (show ¬ w = 8 from ne 8 (by decide)), if_neg (show ¬ w = 9 from ne 9 (by decide)), if_neg (show ¬ w = 10 from ne 10 (by decide)), if_neg (show ¬ w = 11 from ne 11 (by decide))]
    rw [eq] at hQ
    simp only [e130_0, e130_1, e130_4, e130_68, e130_69, e130_72, e130_73, e130_74, e130_75, e130_76, e130_79, e130_80, e130_81, e130_82, e130_83, e130_86, e130_87, e130_88, e130_91, e130_92, e130_93, e130_96, e130_97, e130_98, e130_99, e130_100, e130_103, e130_104, e130_105, e130_108, e130_109, e130_110, e130_113, e130_114, e130_115, e130_118, e130_119, e130_120, e130_121, e130_122, e130_125, e130_126, e130_127, e130_128, e130_129, e130_132, e130_133, e130_134, e130_137, e130_138, e130_140, zpush, zopt_some, ↓reduceIte, List.getElem?_cons_succ, List.getElem?_cons_zero, beq_self_eq_true, true_and, and_true, Bool.true_and, Bool.and_true, Bool.false_and, Bool.and_false, nI_1, not_true_eq_false, not_false_eq_true, vp_narI, d]
    exact hQ
theorem c_M_straw {s o : Int32} (hM : zMM h M) (hg : zG g) (eg : M 0 = g) : Ev 124 0 [.ref 108, .int s, .int o] [] (h, z) Q = Q (some (.int (qSt g s o))) (h, z) := by
  obtain ⟨o0, fd0, fd1, fd2, fd3, fd4, fd5, fd6, fd7, fd8, fd9, fd10, fd11, fd12, fd13, fd14, fd15, fd16, fd17, fd18, fd19, fd20, a0, a1, a2, a4, a5, a6, a7, a9, a10, a11, a14⟩ := hM.q
  have hV := fun (Q : Option Value → zX → Prop) => c_M_isServer (s := s) (z := z) (Q := Q) hM (by rw [eg]; exact hg)
  rw [eg] at hV
  have b2 := hg.2.2.1.2
  have n1 : ¬ (1 : Int32) = 0 := by decide
  unfold qSt
  by_cases hz : zinb s (gN g 2) = true
  · obtain ⟨j, hj, rfl⟩ := zinb_ex hz (by omega)
    have e2 : (nI j).toNatClampNeg = j := nI_clamp (by omega)
    rw [if_pos hz, e2]
    by_cases ho : zinb o 10000 = true
    · obtain ⟨c, hc, rfl⟩ := zinb_ex ho (by decide)
      have e4 : (nI c).toNatClampNeg = c := nI_clamp (by omega)
      have hT := fun (Q : Option Value → zX → Prop) => c_M_takesPart (s := j) (z := z) (Q := Q) hM (by omega)
      rw [eg] at hT
      rw [if_pos ho, e4]
      by_cases ht : tp g j = true
      · have hW := fun (Q : Option Value → zX → Prop) => c_M_strawOf (s := j) (o := c) (z := z) (Q := Q) hM (by rw [eg]; exact hg) (by rw [eg]; exact hj) (by rw [eg]; exact ht) (by omega)
        rw [eg] at hW
        simp only [e124_0, e124_1, e124_2, e124_5, e124_8, e124_9, e124_10, e124_11, e124_14, e124_17, e124_19, e124_20, e124_21, e124_22, e124_25, e124_28, e124_29, e124_30, e124_31, e124_34, e124_37, e124_39, zpush, zopt_some, ↓reduceIte, List.getElem?_cons_succ, List.getElem?_cons_zero, beq_self_eq_true, true_and, and_true, Bool.true_and, Bool.and_true, Bool.false_and, Bool.and_false, nI_1, not_true_eq_false, not_false_eq_true, vp_narI, o0, ↓fd0, ↓fd1, ↓fd2, ↓fd3, ↓fd4, ↓fd5, ↓fd6, ↓fd7, ↓fd8, ↓fd9, ↓fd10, ↓fd11, ↓fd12, ↓fd13, ↓fd14, ↓fd15, ↓fd16, ↓fd17, ↓fd18, ↓fd19, ↓fd20, hV, hz, c_M_isObject, ho, hT, hW, ht, zb_t, n1, not_false_eq_true]
      · rw [if_neg ht]
        rw [Bool.not_eq_true] at ht
        simp only [e124_0, e124_1, e124_2, e124_5, e124_8, e124_9, e124_10, e124_11, e124_14, e124_17, e124_19, e124_20, e124_21, e124_22, e124_25, e124_28, e124_29, e124_30, e124_31, e124_34, e124_37, e124_39, zpush, zopt_some, ↓reduceIte, List.getElem?_cons_succ, List.getElem?_cons_zero, beq_self_eq_true, true_and, and_true, Bool.true_and, Bool.and_true, Bool.false_and, Bool.and_false, nI_1, not_true_eq_false, not_false_eq_true, vp_narI, o0, ↓fd0, ↓fd1, ↓fd2, ↓fd3, ↓fd4, ↓fd5, ↓fd6, ↓fd7, ↓fd8, ↓fd9, ↓fd10, ↓fd11, ↓fd12, ↓fd13, ↓fd14, ↓fd15, ↓fd16, ↓fd17, ↓fd18, ↓fd19, ↓fd20, hV, hz, c_M_isObject, ho, hT, ht, zb_t, zb_f, n1, not_false_eq_true]
    · rw [if_neg ho]
      rw [Bool.not_eq_true] at ho
      simp only [e124_0, e124_1, e124_2, e124_5, e124_8, e124_9, e124_10, e124_11, e124_14, e124_17, e124_19, e124_21, e124_22, e124_25, e124_28, e124_29, e124_30, e124_31, e124_34, e124_37, e124_39, zpush, zopt_some, ↓reduceIte, List.getElem?_cons_succ, List.getElem?_cons_zero, beq_self_eq_true, true_and, and_true, Bool.true_and, Bool.and_true, Bool.false_and, Bool.and_false, nI_1, not_true_eq_false, not_false_eq_true, vp_narI, o0, ↓fd0, ↓fd1, ↓fd2, ↓fd3, ↓fd4, ↓fd5, ↓fd6, ↓fd7, ↓fd8, ↓fd9, ↓fd10, ↓fd11, ↓fd12, ↓fd13, ↓fd14, ↓fd15, ↓fd16, ↓fd17, ↓fd18, ↓fd19, ↓fd20, hV, hz, c_M_isObject, ho, zb_t, zb_f, n1, not_false_eq_true]
  · rw [if_neg hz]
    rw [Bool.not_eq_true] at hz
    simp only [e124_0, e124_1, e124_2, e124_5, e124_8, e124_9, e124_11, e124_14, e124_17, e124_19, e124_20, e124_21, e124_22, e124_25, e124_28, e124_29, e124_30, e124_31, e124_34, e124_37, e124_39, zpush, zopt_some, ↓reduceIte, List.getElem?_cons_succ, List.getElem?_cons_zero, beq_self_eq_true, true_and, and_true, Bool.true_and, Bool.and_true, Bool.false_and, Bool.and_false, nI_1, not_true_eq_false, not_false_eq_true, vp_narI, o0, ↓fd0, ↓fd1, ↓fd2, ↓fd3, ↓fd4, ↓fd5, ↓fd6, ↓fd7, ↓fd8, ↓fd9, ↓fd10, ↓fd11, ↓fd12, ↓fd13, ↓fd14, ↓fd15, ↓fd16, ↓fd17, ↓fd18, ↓fd19, ↓fd20, hV, hz, zb_f]
theorem c_M_move {m' w : Int32} (hM : zMM h M) (hg : zG g) (eg : M 0 = g) : Ev 125 0 [.ref 108, .int m', .int w] [] (h, z) Q = Q (some (.int (qMv g m' w))) (h, z) := by
  obtain ⟨o0, fd0, fd1, fd2, fd3, fd4, fd5, fd6, fd7, fd8, fd9, fd10, fd11, fd12, fd13, fd14, fd15, fd16, fd17, fd18, fd19, fd20, a0, a1, a2, a4, a5, a6, a7, a9, a10, a11, a14⟩ := hM.q
  rw [eg] at a0
  obtain ⟨h4, b4⟩ := hg.2.2.2.2.1
  have n1 : ¬ (1 : Int32) = 0 := by decide
  have e := zin_in (s := m') (lsub1 (gN g 4) b4)
  rw [← h4] at e
  have e' := zin_in (s := w) (H := 2) (n := 3) rfl
  unfold qMv
  by_cases hz : zinb m' (gN g 4) = true
  · obtain ⟨j, hj, rfl⟩ := zinb_ex hz (by omega)
    have e2 : (nI j).toNatClampNeg = j := nI_clamp (by omega)
    rw [if_pos hz, e2]
    by_cases hw : zinb w 3 = true
    · obtain ⟨c, hc, rfl⟩ := zinb_ex hw (by decide)
      have e4 : (nI c).toNatClampNeg = c := nI_clamp (by omega)
      have i1 : zinb (nI (121 + 3 * j + c)) 484 = true := zinb_nI (by omega) (by decide)
      have i2 : (nI (121 + 3 * j + c)).toNatClampNeg = 121 + 3 * j + c := nI_clamp (by omega)
      rw [if_pos hw, e4]
      simp only [e125_0, e125_1, e125_2, e125_3, e125_4, e125_7, e125_8, e125_9, e125_10, e125_11, e125_12, e125_15, e125_18, e125_19, e125_20, e125_21, e125_22, e125_23, e125_26, e125_29, e125_32, e125_33, e125_36, e125_38, e125_39, e125_40, e125_41, e125_42, e125_43, e125_44, e125_45, e125_48, e125_50, zpush, zopt_some, ↓reduceIte, List.getElem?_cons_succ, List.getElem?_cons_zero, beq_self_eq_true, true_and, and_true, Bool.true_and, Bool.and_true, Bool.false_and, Bool.and_false, nI_1, not_true_eq_false, not_false_eq_true, vp_narI, k5, k17, k29, k41, k81, k121, j484_0, cl_0, j484_1, cl_1, j484_2, cl_2, j484_3, cl_3, j484_4, cl_4, o0, ↓fd0, ↓fd1, ↓fd2, ↓fd3, ↓fd4, ↓fd5, ↓fd6, ↓fd7, ↓fd8, ↓fd9, ↓fd10, ↓fd11, ↓fd12, ↓fd13, ↓fd14, ↓fd15, ↓fd16, ↓fd17, ↓fd18, ↓fd19, ↓fd20, ↓a0, c_M_in, e, e', hz, hw, zb_t, n1, nI_3m, nI_add, i1, i2, not_false_eq_true]
    · rw [if_neg hw]
      rw [Bool.not_eq_true] at hw
      simp only [e125_0, e125_1, e125_2, e125_3, e125_4, e125_7, e125_8, e125_9, e125_10, e125_11, e125_12, e125_15, e125_18, e125_19, e125_20, e125_21, e125_22, e125_23, e125_26, e125_29, e125_32, e125_33, e125_36, e125_38, e125_39, e125_40, e125_41, e125_42, e125_43, e125_44, e125_45, e125_48, e125_50, zpush, zopt_some, ↓reduceIte, List.getElem?_cons_succ, List.getElem?_cons_zero, beq_self_eq_true, true_and, and_true, Bool.true_and, Bool.and_true, Bool.false_and, Bool.and_false, nI_1, not_true_eq_false, not_false_eq_true, vp_narI, k5, k17, k29, k41, k81, k121, j484_0, cl_0, j484_1, cl_1, j484_2, cl_2, j484_3, cl_3, j484_4, cl_4, o0, ↓fd0, ↓fd1, ↓fd2, ↓fd3, ↓fd4, ↓fd5, ↓fd6, ↓fd7, ↓fd8, ↓fd9, ↓fd10, ↓fd11, ↓fd12, ↓fd13, ↓fd14, ↓fd15, ↓fd16, ↓fd17, ↓fd18, ↓fd19, ↓fd20, ↓a0, c_M_in, e, e', hz, hw, zb_t, zb_f, n1, not_false_eq_true]
  · rw [if_neg hz]
    rw [Bool.not_eq_true] at hz
    simp only [e125_0, e125_1, e125_2, e125_3, e125_4, e125_7, e125_8, e125_9, e125_10, e125_11, e125_12, e125_15, e125_18, e125_19, e125_21, e125_22, e125_23, e125_26, e125_29, e125_32, e125_33, e125_36, e125_38, e125_39, e125_40, e125_41, e125_42, e125_43, e125_44, e125_45, e125_48, e125_50, zpush, zopt_some, ↓reduceIte, List.getElem?_cons_succ, List.getElem?_cons_zero, beq_self_eq_true, true_and, and_true, Bool.true_and, Bool.and_true, Bool.false_and, Bool.and_false, nI_1, not_true_eq_false, not_false_eq_true, vp_narI, k5, k17, k29, k41, k81, k121, j484_0, cl_0, j484_1, cl_1, j484_2, cl_2, j484_3, cl_3, j484_4, cl_4, o0, ↓fd0, ↓fd1, ↓fd2, ↓fd3, ↓fd4, ↓fd5, ↓fd6, ↓fd7, ↓fd8, ↓fd9, ↓fd10, ↓fd11, ↓fd12, ↓fd13, ↓fd14, ↓fd15, ↓fd16, ↓fd17, ↓fd18, ↓fd19, ↓fd20, ↓a0, c_M_in, e, hz, zb_f]
theorem c_M_object {p w : Int32} (hM : zMM h M) (hg : zG g) (eg : M 0 = g) (hQ : ∀ h' M', zMv [1, 6, 7, 8, 9, 10, 11, 12, 13] h M h' M' → Q (some (.int (qOb g p w))) (h', z)) : Ev 126 0 [.ref 108, .int p, .int w] [] (h, z) Q := by
  obtain ⟨o0, fd0, fd1, fd2, fd3, fd4, fd5, fd6, fd7, fd8, fd9, fd10, fd11, fd12, fd13, fd14, fd15, fd16, fd17, fd18, fd19, fd20, a0, a1, a2, a4, a5, a6, a7, a9, a10, a11, a14⟩ := hM.q
  rw [eg] at a0
  obtain ⟨h3, b3⟩ := hg.2.2.2.1
  have n1 : ¬ (1 : Int32) = 0 := by decide
  have e := zin_in (s := p) (lsub1 (gN g 3) (by omega))
  rw [← h3] at e
  have e' := zin_in (s := w) (H := 2) (n := 3) rfl
  unfold qOb at hQ
  by_cases hz : zinb p (gN g 3) = true
  · obtain ⟨j, hj, rfl⟩ := zinb_ex hz (by omega)
    have e2 : (nI j).toNatClampNeg = j := nI_clamp (by omega)
    rw [if_pos hz, e2] at hQ
    by_cases hw : zinb w 3 = true
    · obtain ⟨c, hc, rfl⟩ := zinb_ex hw (by decide)
      simp only [e126_0, e126_1, e126_2, e126_3, e126_4, e126_7, e126_8, e126_9, e126_10, e126_11, e126_12, e126_15, e126_18, e126_19, e126_20, e126_21, e126_22, e126_23, e126_26, e126_29, e126_32, e126_34, e126_35, e126_36, e126_37, e126_41, e126_44, e126_45, e126_48, e126_50, e126_51, e126_52, e126_53, e126_56, e126_57, e126_58, e126_61, e126_62, e126_65, e126_67, e126_68, e126_69, e126_70, e126_73, e126_74, e126_77, zpush, zopt_some, ↓reduceIte, List.getElem?_cons_succ, List.getElem?_cons_zero, beq_self_eq_true, true_and, and_true, Bool.true_and, Bool.and_true, Bool.false_and, Bool.and_false, nI_1, not_true_eq_false, not_false_eq_true, vp_narI, k5, k17, k29, k41, k81, k121, j484_0, cl_0, j484_1, cl_1, j484_2, cl_2, j484_3, cl_3, j484_4, cl_4, o0, ↓fd0, ↓fd1, ↓fd2, ↓fd3, ↓fd4, ↓fd5, ↓fd6, ↓fd7, ↓fd8, ↓fd9, ↓fd10, ↓fd11, ↓fd12, ↓fd13, ↓fd14, ↓fd15, ↓fd16, ↓fd17, ↓fd18, ↓fd19, ↓fd20, ↓a0, c_M_in, e, e', hz, hw, zb_t, n1, not_false_eq_true]
      refine c_M_findPlacesAt hM hg eg hj (fun h1 M1 V1 P1 => ?_)
      obtain ⟨o0, fd0, fd1, fd2, fd3, fd4, fd5, fd6, fd7, fd8, fd9, fd10, fd11, fd12, fd13, fd14, fd15, fd16, fd17, fd18, fd19, fd20, a0, a1, a2, a4, a5, a6, a7, a9, a10, a11, a14⟩ := V1.mm.q
      rw [V1.k 0 rfl, eg] at a0
      have hQ := hQ h1 M1 (V1.mono rfl)
      have i1 : zinb (nI (41 + j)) 484 = true := zinb_nI (by omega) (by decide)
      have i2 : (nI (41 + j)).toNatClampNeg = 41 + j := nI_clamp (by omega)
      have i3 : zinb (nI (81 + j)) 484 = true := zinb_nI (by omega) (by decide)
      have i4 : (nI (81 + j)).toNatClampNeg = 81 + j := nI_clamp (by omega)
      rcases (show c = 0 ∨ c = 1 ∨ c = 2 by omega) with rfl | rfl | rfl
      · rw [show qObI g j (nI 0) = g (41 + j) from rfl] at hQ
        simp only [e126_0, e126_1, e126_2, e126_3, e126_4, e126_7, e126_8, e126_9, e126_10, e126_11, e126_12, e126_15, e126_18, e126_19, e126_20, e126_21, e126_22, e126_23, e126_26, e126_29, e126_32, e126_34, e126_35, e126_36, e126_37, e126_40, e126_41, e126_44, e126_45, e126_48, e126_50, e126_51, e126_52, e126_53, e126_56, e126_57, e126_58, e126_61, e126_62, e126_65, e126_67, e126_68, e126_69, e126_70, e126_73, e126_74, e126_77, zpush, zopt_some, ↓reduceIte, List.getElem?_cons_succ, List.getElem?_cons_zero, beq_self_eq_true, true_and, and_true, Bool.true_and, Bool.and_true, Bool.false_and, Bool.and_false, nI_1, not_true_eq_false, not_false_eq_true, vp_narI, k5, k17, k29, k41, k81, k121, j484_0, cl_0, j484_1, cl_1, j484_2, cl_2, j484_3, cl_3, j484_4, cl_4, o0, ↓fd0, ↓fd1, ↓fd2, ↓fd3, ↓fd4, ↓fd5, ↓fd6, ↓fd7, ↓fd8, ↓fd9, ↓fd10, ↓fd11, ↓fd12, ↓fd13, ↓fd14, ↓fd15, ↓fd16, ↓fd17, ↓fd18, ↓fd19, ↓fd20, ↓a0, show nI 0 = (0 : Int32) from rfl, i1, i2]
        exact hQ
      · rw [show qObI g j (nI 1) = g (81 + j) from rfl] at hQ
        simp only [e126_0, e126_1, e126_2, e126_3, e126_4, e126_7, e126_8, e126_9, e126_10, e126_11, e126_12, e126_15, e126_18, e126_19, e126_20, e126_21, e126_22, e126_23, e126_26, e126_29, e126_32, e126_34, e126_35, e126_36, e126_37, e126_40, e126_41, e126_44, e126_45, e126_48, e126_50, e126_51, e126_52, e126_53, e126_56, e126_57, e126_58, e126_61, e126_62, e126_65, e126_67, e126_68, e126_69, e126_70, e126_73, e126_74, e126_77, zpush, zopt_some, ↓reduceIte, List.getElem?_cons_succ, List.getElem?_cons_zero, beq_self_eq_true, true_and, and_true, Bool.true_and, Bool.and_true, Bool.false_and, Bool.and_false, nI_1, not_true_eq_false, not_false_eq_true, vp_narI, k5, k17, k29, k41, k81, k121, j484_0, cl_0, j484_1, cl_1, j484_2, cl_2, j484_3, cl_3, j484_4, cl_4, o0, ↓fd0, ↓fd1, ↓fd2, ↓fd3, ↓fd4, ↓fd5, ↓fd6, ↓fd7, ↓fd8, ↓fd9, ↓fd10, ↓fd11, ↓fd12, ↓fd13, ↓fd14, ↓fd15, ↓fd16, ↓fd17, ↓fd18, ↓fd19, ↓fd20, ↓a0, show nI 1 = (1 : Int32) from rfl, n1, i3, i4, not_false_eq_true]
        exact hQ
      · rw [show qObI g j (nI 2) = nI (plK g j).length from rfl] at hQ
        simp only [e126_0, e126_1, e126_2, e126_3, e126_4, e126_7, e126_8, e126_9, e126_10, e126_11, e126_12, e126_15, e126_18, e126_19, e126_20, e126_21, e126_22, e126_23, e126_26, e126_29, e126_32, e126_34, e126_35, e126_36, e126_37, e126_40, e126_41, e126_44, e126_45, e126_48, e126_50, e126_51, e126_52, e126_53, e126_56, e126_57, e126_58, e126_61, e126_62, e126_65, e126_67, e126_68, e126_69, e126_70, e126_73, e126_74, e126_77, zpush, zopt_some, ↓reduceIte, List.getElem?_cons_succ, List.getElem?_cons_zero, beq_self_eq_true, true_and, and_true, Bool.true_and, Bool.and_true, Bool.false_and, Bool.and_false, nI_1, not_true_eq_false, not_false_eq_true, vp_narI, k5, k17, k29, k41, k81, k121, j484_0, cl_0, j484_1, cl_1, j484_2, cl_2, j484_3, cl_3, j484_4, cl_4, o0, ↓fd0, ↓fd1, ↓fd2, ↓fd3, ↓fd4, ↓fd5, ↓fd6, ↓fd7, ↓fd8, ↓fd9, ↓fd10, ↓fd11, ↓fd12, ↓fd13, ↓fd14, ↓fd15, ↓fd16, ↓fd17, ↓fd18, ↓fd19, ↓fd20, show nI 2 = (2 : Int32) from rfl, P1.1, (show ¬ (2 : Int32) = 0 by decide), (show ¬ (2 : Int32) = 1 by decide), not_false_eq_true]
        exact hQ
    · have eq : qObI g j w = -2 := by
        unfold qObI
        rw [if_neg (fun e => hw (by rw [e]; decide)), if_neg (fun e => hw (by rw [e]; decide)), if_neg (fun e => hw (by rw [e]; decide))]
      rw [eq] at hQ
      rw [Bool.not_eq_true] at hw
      simp only [e126_0, e126_1, e126_2, e126_3, e126_4, e126_7, e126_8, e126_9, e126_10, e126_11, e126_12, e126_15, e126_18, e126_19, e126_20, e126_21, e126_22, e126_23, e126_26, e126_29, e126_32, e126_34, e126_36, e126_37, e126_40, e126_41, e126_44, e126_45, e126_48, e126_50, e126_51, e126_52, e126_53, e126_56, e126_57, e126_58, e126_61, e126_62, e126_65, e126_67, e126_68, e126_69, e126_70, e126_73, e126_74, e126_77, zpush, zopt_some, ↓reduceIte, List.getElem?_cons_succ, List.getElem?_cons_zero, beq_self_eq_true, true_and, and_true, Bool.true_and, Bool.and_true, Bool.false_and, Bool.and_false, nI_1, not_true_eq_false, not_false_eq_true, vp_narI, k5, k17, k29, k41, k81, k121, j484_0, cl_0, j484_1, cl_1, j484_2, cl_2, j484_3, cl_3, j484_4, cl_4, o0, ↓fd0, ↓fd1, ↓fd2, ↓fd3, ↓fd4, ↓fd5, ↓fd6, ↓fd7, ↓fd8, ↓fd9, ↓fd10, ↓fd11, ↓fd12, ↓fd13, ↓fd14, ↓fd15, ↓fd16, ↓fd17, ↓fd18, ↓fd19, ↓fd20, ↓a0, c_M_in, e, e', hz, hw, zb_t, zb_f, n1, not_false_eq_true]
      exact hQ h M hM.rf
  · rw [if_neg hz] at hQ
    rw [Bool.not_eq_true] at hz
    simp only [e126_0, e126_1, e126_2, e126_3, e126_4, e126_7, e126_8, e126_9, e126_10, e126_11, e126_12, e126_15, e126_18, e126_19, e126_21, e126_22, e126_23, e126_26, e126_29, e126_32, e126_34, e126_35, e126_36, e126_37, e126_40, e126_41, e126_44, e126_45, e126_48, e126_50, e126_51, e126_52, e126_53, e126_56, e126_57, e126_58, e126_61, e126_62, e126_65, e126_67, e126_68, e126_69, e126_70, e126_73, e126_74, e126_77, zpush, zopt_some, ↓reduceIte, List.getElem?_cons_succ, List.getElem?_cons_zero, beq_self_eq_true, true_and, and_true, Bool.true_and, Bool.and_true, Bool.false_and, Bool.and_false, nI_1, not_true_eq_false, not_false_eq_true, vp_narI, k5, k17, k29, k41, k81, k121, j484_0, cl_0, j484_1, cl_1, j484_2, cl_2, j484_3, cl_3, j484_4, cl_4, o0, ↓fd0, ↓fd1, ↓fd2, ↓fd3, ↓fd4, ↓fd5, ↓fd6, ↓fd7, ↓fd8, ↓fd9, ↓fd10, ↓fd11, ↓fd12, ↓fd13, ↓fd14, ↓fd15, ↓fd16, ↓fd17, ↓fd18, ↓fd19, ↓fd20, ↓a0, c_M_in, e, hz, zb_f]
    exact hQ h M hM.rf
theorem c_M_place {o c : Int32} (hM : zMM h M) (hg : zG g) (eg : M 0 = g) (hQ : ∀ h' M', zMv [1, 6, 7, 8, 9, 10, 11, 12, 13] h M h' M' → Q (some (.int (qPl g o c))) (h', z)) : Ev 123 0 [.ref 108, .int o, .int c, zU] [] (h, z) Q := by
  obtain ⟨o0, fd0, fd1, fd2, fd3, fd4, fd5, fd6, fd7, fd8, fd9, fd10, fd11, fd12, fd13, fd14, fd15, fd16, fd17, fd18, fd19, fd20, a0, a1, a2, a4, a5, a6, a7, a9, a10, a11, a14⟩ := hM.q
  have hF := fun (Q : Option Value → zX → Prop) => c_M_placeOf (o := o) (z := z) (Q := Q) hM (by rw [eg]; exact hg)
  rw [eg] at a0 hF
  obtain ⟨h3, b3⟩ := hg.2.2.2.1
  have n1 : ¬ (1 : Int32) = 0 := by decide
  unfold qPl at hQ
  by_cases hz : zinb o 10000 = true
  · by_cases hc : c < 0
    · have hc' : ¬ (0 : Int32) ≤ c := Int32.not_le.mpr hc
      rw [if_neg (fun h => h.2 hc)] at hQ
      simp only [e123_0, e123_1, e123_4, e123_7, e123_8, e123_11, e123_13, e123_15, e123_16, e123_19, e123_20, e123_21, e123_22, e123_23, e123_25, e123_28, e123_30, e123_33, e123_34, e123_37, e123_39, e123_40, e123_41, e123_42, e123_45, e123_46, e123_47, e123_50, e123_53, e123_54, e123_57, e123_58, e123_59, e123_62, e123_64, zpush, zopt_some, ↓reduceIte, List.getElem?_cons_succ, List.getElem?_cons_zero, beq_self_eq_true, true_and, and_true, Bool.true_and, Bool.and_true, Bool.false_and, Bool.and_false, nI_1, not_true_eq_false, not_false_eq_true, vp_narI, o0, ↓fd0, ↓fd1, ↓fd2, ↓fd3, ↓fd4, ↓fd5, ↓fd6, ↓fd7, ↓fd8, ↓fd9, ↓fd10, ↓fd11, ↓fd12, ↓fd13, ↓fd14, ↓fd15, ↓fd16, ↓fd17, ↓fd18, ↓fd19, ↓fd20, c_M_isObject, hz, hc', zb_t, n1]
      exact hQ h M hM.rf
    · rw [if_pos ⟨hz, hc⟩] at hQ
      have hc' : (0 : Int32) ≤ c := Int32.not_lt.mp hc
      obtain ⟨oo, ho, rfl⟩ := zinb_ex hz (by decide)
      obtain ⟨cc, hcc, rfl⟩ := nI_of hc
      have tail : ∀ (l : List Nat) (x : Int32) (h' : List zC) (M' : Nat → Nat → Int32), l.length ≤ 3 → zPo M' l → zMv [6, 7, 8] h M h' M' → Q (some (.int (plG l (nI cc)))) (h', z) → Ev 123 45 [.ref 108, .int (nI oo), .int (nI cc), .int x] [] (h', z) Q := by
        intro l x h' M' hl P V hq
        obtain ⟨o0, fd0, fd1, fd2, fd3, fd4, fd5, fd6, fd7, fd8, fd9, fd10, fd11, fd12, fd13, fd14, fd15, fd16, fd17, fd18, fd19, fd20, a0, a1, a2, a4, a5, a6, a7, a9, a10, a11, a14⟩ := V.mm.q
        unfold plG at hq
        by_cases h5 : cc < l.length
        · have f1 : ¬ nI l.length ≤ nI cc := nI_ge h5 (by omega)
          have f2 : zinb (nI cc) 3 = true := zinb_nI (by omega) (by decide)
          have f3 : (nI cc).toNatClampNeg = cc := nI_clamp (by omega)
          have f4 : M' 7 cc = nI (l.getD cc 0) := P.2 cc _ (by rw [List.getD_eq_getElem?_getD, List.getElem?_eq_getElem h5]; rfl)
          rw [if_pos (zinb_nI h5 (by omega)), f3] at hq
          simp only [e123_0, e123_1, e123_4, e123_7, e123_8, e123_11, e123_13, e123_14, e123_15, e123_16, e123_19, e123_20, e123_21, e123_22, e123_23, e123_25, e123_28, e123_30, e123_33, e123_34, e123_37, e123_39, e123_40, e123_41, e123_42, e123_45, e123_46, e123_47, e123_50, e123_53, e123_54, e123_57, e123_58, e123_59, e123_62, e123_64, zpush, zopt_some, ↓reduceIte, List.getElem?_cons_succ, List.getElem?_cons_zero, beq_self_eq_true, true_and, and_true, Bool.true_and, Bool.and_true, Bool.false_and, Bool.and_false, nI_1, not_true_eq_false, not_false_eq_true, vp_narI, o0, ↓fd0, ↓fd1, ↓fd2, ↓fd3, ↓fd4, ↓fd5, ↓fd6, ↓fd7, ↓fd8, ↓fd9, ↓fd10, ↓fd11, ↓fd12, ↓fd13, ↓fd14, ↓fd15, ↓fd16, ↓fd17, ↓fd18, ↓fd19, ↓fd20, ↓a7, P.1, f1, f2, f3, f4]
          exact hq
        · have f1 : nI l.length ≤ nI cc := nI_le (by omega) hcc
          rw [if_neg (by rw [Bool.not_eq_true]; exact (zinb_no (by omega)).mpr (Or.inr f1))] at hq
          simp only [e123_0, e123_1, e123_4, e123_7, e123_8, e123_11, e123_13, e123_14, e123_15, e123_16, e123_19, e123_20, e123_21, e123_22, e123_23, e123_25, e123_28, e123_30, e123_33, e123_34, e123_37, e123_39, e123_40, e123_41, e123_42, e123_45, e123_46, e123_47, e123_50, e123_53, e123_54, e123_57, e123_58, e123_59, e123_62, e123_64, zpush, zopt_some, ↓reduceIte, List.getElem?_cons_succ, List.getElem?_cons_zero, beq_self_eq_true, true_and, and_true, Bool.true_and, Bool.and_true, Bool.false_and, Bool.and_false, nI_1, not_true_eq_false, not_false_eq_true, vp_narI, o0, ↓fd0, ↓fd1, ↓fd2, ↓fd3, ↓fd4, ↓fd5, ↓fd6, ↓fd7, ↓fd8, ↓fd9, ↓fd10, ↓fd11, ↓fd12, ↓fd13, ↓fd14, ↓fd15, ↓fd16, ↓fd17, ↓fd18, ↓fd19, ↓fd20, P.1, f1]
          exact hq
      have eo : (nI oo).toNatClampNeg = oo := nI_clamp (by omega)
      by_cases hf : fnd g (nI oo) = -6
      · rw [if_pos hf, eo] at hQ
        simp only [e123_0, e123_1, e123_4, e123_7, e123_8, e123_11, e123_13, e123_14, e123_15, e123_16, e123_19, e123_20, e123_21, e123_22, e123_23, e123_25, e123_28, e123_30, e123_33, e123_34, e123_37, e123_39, e123_40, e123_41, e123_42, e123_46, e123_47, e123_50, e123_53, e123_54, e123_57, e123_58, e123_59, e123_62, e123_64, zpush, zopt_some, ↓reduceIte, List.getElem?_cons_succ, List.getElem?_cons_zero, beq_self_eq_true, true_and, and_true, Bool.true_and, Bool.and_true, Bool.false_and, Bool.and_false, nI_1, not_true_eq_false, not_false_eq_true, vp_narI, o0, ↓fd0, ↓fd1, ↓fd2, ↓fd3, ↓fd4, ↓fd5, ↓fd6, ↓fd7, ↓fd8, ↓fd9, ↓fd10, ↓fd11, ↓fd12, ↓fd13, ↓fd14, ↓fd15, ↓fd16, ↓fd17, ↓fd18, ↓fd19, ↓fd20, c_M_isObject, hz, hc', hF, hf, zb_t, n1, not_true_eq_false]
        refine c_M_findPlaces hM hg eg (by omega) (Or.inl rfl) (fun h1 M1 V1 P1 => ?_)
        have hl := (plc_ok (o := oo) (pin := -6) hg).2
        exact tail _ _ h1 M1 hl P1 V1 (hQ h1 M1 (V1.mono rfl))
      · obtain ⟨q, hq, oq, fq, cq⟩ := fnd_ok hg hf
        have f1 : ¬ nI q = -6 := nI_ne6 (by omega)
        rw [if_neg hf, cq] at hQ
        rw [fq] at hF
        obtain ⟨⟨o1, o2⟩, p1⟩ := hg.2.2.2.2.2.2 q hq
        have i1 : zinb (nI (81 + q)) 484 = true := zinb_nI (by omega) (by decide)
        have i2 : (nI (81 + q)).toNatClampNeg = 81 + q := nI_clamp (by omega)
        have eoo : gN g (41 + q) = oo := by unfold gN; rw [oq]; exact eo
        simp only [e123_0, e123_1, e123_4, e123_7, e123_8, e123_11, e123_13, e123_14, e123_15, e123_16, e123_19, e123_20, e123_21, e123_22, e123_23, e123_25, e123_28, e123_30, e123_33, e123_34, e123_37, e123_39, e123_40, e123_41, e123_42, e123_46, e123_47, e123_50, e123_53, e123_54, e123_57, e123_58, e123_59, e123_62, e123_64, zpush, zopt_some, ↓reduceIte, List.getElem?_cons_succ, List.getElem?_cons_zero, beq_self_eq_true, true_and, and_true, Bool.true_and, Bool.and_true, Bool.false_and, Bool.and_false, nI_1, not_true_eq_false, not_false_eq_true, vp_narI, k5, k17, k29, k41, k81, k121, j484_0, cl_0, j484_1, cl_1, j484_2, cl_2, j484_3, cl_3, j484_4, cl_4, o0, ↓fd0, ↓fd1, ↓fd2, ↓fd3, ↓fd4, ↓fd5, ↓fd6, ↓fd7, ↓fd8, ↓fd9, ↓fd10, ↓fd11, ↓fd12, ↓fd13, ↓fd14, ↓fd15, ↓fd16, ↓fd17, ↓fd18, ↓fd19, ↓fd20, ↓a0, c_M_isObject, hz, hc', hF, f1, i1, i2, zb_t, n1, not_false_eq_true]
        refine c_M_findPlaces hM hg eg (by omega) p1 (fun h1 M1 V1 P1 => ?_)
        have hl := (plK_ok hg q).2
        have ep : plc g oo (g (81 + q)) = plK g q := by unfold plK; rw [eoo]
        rw [ep] at P1
        exact tail _ _ h1 M1 hl P1 V1 (hQ h1 M1 (V1.mono rfl))
  · rw [if_neg (fun h => hz h.1)] at hQ
    rw [Bool.not_eq_true] at hz
    simp only [e123_0, e123_1, e123_4, e123_7, e123_8, e123_11, e123_13, e123_15, e123_16, e123_19, e123_20, e123_21, e123_22, e123_23, e123_25, e123_28, e123_30, e123_33, e123_34, e123_37, e123_39, e123_40, e123_41, e123_42, e123_45, e123_46, e123_47, e123_50, e123_53, e123_54, e123_57, e123_58, e123_59, e123_62, e123_64, zpush, zopt_some, ↓reduceIte, List.getElem?_cons_succ, List.getElem?_cons_zero, beq_self_eq_true, true_and, and_true, Bool.true_and, Bool.and_true, Bool.false_and, Bool.and_false, nI_1, not_true_eq_false, not_false_eq_true, vp_narI, o0, ↓fd0, ↓fd1, ↓fd2, ↓fd3, ↓fd4, ↓fd5, ↓fd6, ↓fd7, ↓fd8, ↓fd9, ↓fd10, ↓fd11, ↓fd12, ↓fd13, ↓fd14, ↓fd15, ↓fd16, ↓fd17, ↓fd18, ↓fd19, ↓fd20, c_M_isObject, hz, zb_f]
    exact hQ h M hM.rf
theorem l_M_lostWith {s t : Int32} (hg : zG g) (h0 : List zC) (M0 : Nat → Nat → Int32) (hQ : ∀ h' M', zMv [6, 7, 8] h0 M0 h' M' → Q (some (.int (lwc g ((1 <<< (s &&& 31)) ||| (1 <<< (t &&& 31))) (gN g 3)))) (h', z)) :
    ∀ (j i : Nat) (h : List zC) (M : Nat → Nat → Int32), i + j = gN g 3 → zMv [6, 7, 8] h0 M0 h M → M 0 = g → Ev 132 23 [.ref 108, .int s, .int t, .int (lwc g ((1 <<< (s &&& 31)) ||| (1 <<< (t &&& 31))) i), .int (nI i)] [] (h, z) Q := by
  obtain ⟨h3, b3⟩ := hg.2.2.2.1
  intro j
  induction j with
  | zero =>
    intro i h M hi V eg
    have hi : i = gN g 3 := by omega
    subst hi
    obtain ⟨o0, fd0, fd1, fd2, fd3, fd4, fd5, fd6, fd7, fd8, fd9, fd10, fd11, fd12, fd13, fd14, fd15, fd16, fd17, fd18, fd19, fd20, a0, a1, a2, a4, a5, a6, a7, a9, a10, a11, a14⟩ := V.mm.q
    rw [eg] at a0
    have e1 : g 3 ≤ nI (gN g 3) := by rw [← h3]; exact Int32.le_refl _
    rw [e132_23]
    simp only [e132_0, e132_1, e132_2, e132_5, e132_8, e132_9, e132_10, e132_13, e132_16, e132_17, e132_18, e132_19, e132_20, e132_21, e132_25, e132_26, e132_29, e132_30, e132_31, e132_34, e132_35, e132_36, e132_38, e132_41, e132_42, e132_43, e132_44, e132_45, e132_46, e132_47, e132_48, e132_49, e132_50, e132_51, e132_52, e132_53, e132_56, e132_57, e132_60, e132_61, e132_62, e132_63, e132_66, e132_69, e132_70, zpush, zopt_some, ↓reduceIte, List.getElem?_cons_succ, List.getElem?_cons_zero, beq_self_eq_true, true_and, and_true, Bool.true_and, Bool.and_true, Bool.false_and, Bool.and_false, nI_1, not_true_eq_false, not_false_eq_true, vp_narI, k5, k17, k29, k41, k81, k121, j484_0, cl_0, j484_1, cl_1, j484_2, cl_2, j484_3, cl_3, j484_4, cl_4, o0, ↓fd0, ↓fd1, ↓fd2, ↓fd3, ↓fd4, ↓fd5, ↓fd6, ↓fd7, ↓fd8, ↓fd9, ↓fd10, ↓fd11, ↓fd12, ↓fd13, ↓fd14, ↓fd15, ↓fd16, ↓fd17, ↓fd18, ↓fd19, ↓fd20, ↓a0, e1]
    exact hQ h M V
  | succ j ih =>
    intro i h M hi V eg
    obtain ⟨o0, fd0, fd1, fd2, fd3, fd4, fd5, fd6, fd7, fd8, fd9, fd10, fd11, fd12, fd13, fd14, fd15, fd16, fd17, fd18, fd19, fd20, a0, a1, a2, a4, a5, a6, a7, a9, a10, a11, a14⟩ := V.mm.q
    rw [eg] at a0
    have hlt : i < gN g 3 := by omega
    have e1 : ¬ g 3 ≤ nI i := by rw [h3]; exact nI_ge hlt (by omega)
    rw [e132_23]
    simp only [e132_0, e132_1, e132_2, e132_5, e132_8, e132_9, e132_10, e132_13, e132_16, e132_17, e132_18, e132_19, e132_20, e132_21, e132_25, e132_26, e132_29, e132_30, e132_31, e132_34, e132_35, e132_36, e132_38, e132_41, e132_42, e132_43, e132_44, e132_45, e132_46, e132_47, e132_48, e132_49, e132_50, e132_51, e132_52, e132_53, e132_56, e132_57, e132_60, e132_61, e132_62, e132_63, e132_66, e132_69, e132_70, zpush, zopt_some, ↓reduceIte, List.getElem?_cons_succ, List.getElem?_cons_zero, beq_self_eq_true, true_and, and_true, Bool.true_and, Bool.and_true, Bool.false_and, Bool.and_false, nI_1, not_true_eq_false, not_false_eq_true, vp_narI, k5, k17, k29, k41, k81, k121, j484_0, cl_0, j484_1, cl_1, j484_2, cl_2, j484_3, cl_3, j484_4, cl_4, o0, ↓fd0, ↓fd1, ↓fd2, ↓fd3, ↓fd4, ↓fd5, ↓fd6, ↓fd7, ↓fd8, ↓fd9, ↓fd10, ↓fd11, ↓fd12, ↓fd13, ↓fd14, ↓fd15, ↓fd16, ↓fd17, ↓fd18, ↓fd19, ↓fd20, ↓a0, e1]
    refine c_M_setOf V.mm hg eg hlt (fun h2 M2 V2 P2 => ?_)
    have ih := ih (i + 1) h2 M2 (by omega) (V.to V2 rfl) ((V2.k 0 rfl).trans eg)
    rw [lwc] at ih
    by_cases hc : setI (plK g i) &&& (((1 <<< (s &&& 31)) ||| (1 <<< (t &&& 31))) ^^^ (-1)) = 0
    · rw [if_pos hc] at ih
      simp only [e132_0, e132_1, e132_2, e132_5, e132_8, e132_9, e132_10, e132_13, e132_16, e132_17, e132_18, e132_19, e132_20, e132_21, e132_25, e132_26, e132_29, e132_30, e132_31, e132_34, e132_35, e132_36, e132_38, e132_41, e132_42, e132_43, e132_44, e132_45, e132_46, e132_47, e132_48, e132_49, e132_50, e132_51, e132_52, e132_53, e132_56, e132_57, e132_60, e132_61, e132_62, e132_63, e132_66, e132_69, e132_70, zpush, zopt_some, ↓reduceIte, List.getElem?_cons_succ, List.getElem?_cons_zero, beq_self_eq_true, true_and, and_true, Bool.true_and, Bool.and_true, Bool.false_and, Bool.and_false, nI_1, not_true_eq_false, not_false_eq_true, vp_narI, andnot2, hc, not_true_eq_false]
      exact ih
    · rw [if_neg hc] at ih
      simp only [e132_0, e132_1, e132_2, e132_5, e132_8, e132_9, e132_10, e132_13, e132_16, e132_17, e132_18, e132_19, e132_20, e132_21, e132_25, e132_26, e132_29, e132_30, e132_31, e132_34, e132_35, e132_36, e132_38, e132_41, e132_42, e132_43, e132_44, e132_45, e132_46, e132_47, e132_48, e132_49, e132_50, e132_51, e132_52, e132_53, e132_56, e132_57, e132_60, e132_61, e132_62, e132_63, e132_66, e132_69, e132_70, zpush, zopt_some, ↓reduceIte, List.getElem?_cons_succ, List.getElem?_cons_zero, beq_self_eq_true, true_and, and_true, Bool.true_and, Bool.and_true, Bool.false_and, Bool.and_false, nI_1, not_true_eq_false, not_false_eq_true, vp_narI, andnot2, hc, not_false_eq_true]
      exact ih
theorem c_M_lostWith {s t : Int32} (hM : zMM h M) (hg : zG g) (eg : M 0 = g) (hQ : ∀ h' M', zMv [1, 6, 7, 8, 9, 10, 11, 12, 13] h M h' M' → Q (some (.int (qLw g s t))) (h', z)) : Ev 132 0 [.ref 108, .int s, .int t, zU, zU] [] (h, z) Q := by
  obtain ⟨o0, fd0, fd1, fd2, fd3, fd4, fd5, fd6, fd7, fd8, fd9, fd10, fd11, fd12, fd13, fd14, fd15, fd16, fd17, fd18, fd19, fd20, a0, a1, a2, a4, a5, a6, a7, a9, a10, a11, a14⟩ := hM.q
  have hV := fun (s : Int32) (Q : Option Value → zX → Prop) => c_M_isServer (s := s) (z := z) (Q := Q) hM (by rw [eg]; exact hg)
  rw [eg] at hV
  have n1 : ¬ (1 : Int32) = 0 := by decide
  unfold qLw at hQ
  by_cases h1 : zinb s (gN g 2) = true
  · by_cases h2 : zinb t (gN g 2) = true
    · rw [if_pos ⟨h1, h2⟩] at hQ
      simp only [e132_0, e132_1, e132_2, e132_5, e132_8, e132_9, e132_10, e132_13, e132_16, e132_17, e132_18, e132_19, e132_20, e132_21, e132_25, e132_26, e132_29, e132_30, e132_31, e132_34, e132_35, e132_36, e132_38, e132_41, e132_42, e132_43, e132_44, e132_45, e132_46, e132_47, e132_48, e132_49, e132_50, e132_51, e132_52, e132_53, e132_56, e132_57, e132_60, e132_61, e132_62, e132_63, e132_66, e132_69, e132_70, zpush, zopt_some, ↓reduceIte, List.getElem?_cons_succ, List.getElem?_cons_zero, beq_self_eq_true, true_and, and_true, Bool.true_and, Bool.and_true, Bool.false_and, Bool.and_false, nI_1, not_true_eq_false, not_false_eq_true, vp_narI, o0, ↓fd0, ↓fd1, ↓fd2, ↓fd3, ↓fd4, ↓fd5, ↓fd6, ↓fd7, ↓fd8, ↓fd9, ↓fd10, ↓fd11, ↓fd12, ↓fd13, ↓fd14, ↓fd15, ↓fd16, ↓fd17, ↓fd18, ↓fd19, ↓fd20, hV, h1, h2, zb_t, n1, not_false_eq_true]
      exact l_M_lostWith hg h M (fun h' M' V => hQ h' M' (V.mono rfl)) (gN g 3) 0 h M (by omega) hM.rf eg
    · rw [if_neg (fun h => h2 h.2)] at hQ
      rw [Bool.not_eq_true] at h2
      simp only [e132_0, e132_1, e132_2, e132_5, e132_8, e132_9, e132_10, e132_13, e132_16, e132_17, e132_19, e132_20, e132_21, e132_23, e132_25, e132_26, e132_29, e132_30, e132_31, e132_34, e132_35, e132_36, e132_38, e132_41, e132_42, e132_43, e132_44, e132_45, e132_46, e132_47, e132_48, e132_49, e132_50, e132_51, e132_52, e132_53, e132_56, e132_57, e132_60, e132_61, e132_62, e132_63, e132_66, e132_69, e132_70, zpush, zopt_some, ↓reduceIte, List.getElem?_cons_succ, List.getElem?_cons_zero, beq_self_eq_true, true_and, and_true, Bool.true_and, Bool.and_true, Bool.false_and, Bool.and_false, nI_1, not_true_eq_false, not_false_eq_true, vp_narI, o0, ↓fd0, ↓fd1, ↓fd2, ↓fd3, ↓fd4, ↓fd5, ↓fd6, ↓fd7, ↓fd8, ↓fd9, ↓fd10, ↓fd11, ↓fd12, ↓fd13, ↓fd14, ↓fd15, ↓fd16, ↓fd17, ↓fd18, ↓fd19, ↓fd20, hV, h1, h2, zb_t, zb_f, n1]
      exact hQ h M hM.rf
  · rw [if_neg (fun h => h1 h.1)] at hQ
    rw [Bool.not_eq_true] at h1
    simp only [e132_0, e132_1, e132_2, e132_5, e132_8, e132_9, e132_10, e132_13, e132_16, e132_17, e132_19, e132_20, e132_21, e132_23, e132_25, e132_26, e132_29, e132_30, e132_31, e132_34, e132_35, e132_36, e132_38, e132_41, e132_42, e132_43, e132_44, e132_45, e132_46, e132_47, e132_48, e132_49, e132_50, e132_51, e132_52, e132_53, e132_56, e132_57, e132_60, e132_61, e132_62, e132_63, e132_66, e132_69, e132_70, zpush, zopt_some, ↓reduceIte, List.getElem?_cons_succ, List.getElem?_cons_zero, beq_self_eq_true, true_and, and_true, Bool.true_and, Bool.and_true, Bool.false_and, Bool.and_false, nI_1, not_true_eq_false, not_false_eq_true, vp_narI, o0, ↓fd0, ↓fd1, ↓fd2, ↓fd3, ↓fd4, ↓fd5, ↓fd6, ↓fd7, ↓fd8, ↓fd9, ↓fd10, ↓fd11, ↓fd12, ↓fd13, ↓fd14, ↓fd15, ↓fd16, ↓fd17, ↓fd18, ↓fd19, ↓fd20, hV, h1, zb_f]
    exact hQ h M hM.rf
theorem c_M_movesIf {s w : Int32} (hM : zMM h M) (hg : zG g) (eg : M 0 = g) (hQ : ∀ h' M', zMv [0, 1, 6, 7, 8, 9, 10, 11, 12, 13] h M h' M' → (∀ k, k < 484 → M' 0 k = g k) → Q (some (.int (chW g s w).1)) (h', z)) : Ev 131 0 [.ref 108, .int s, .int w, zU] [] (h, z) Q := by
  obtain ⟨o0, fd0, fd1, fd2, fd3, fd4, fd5, fd6, fd7, fd8, fd9, fd10, fd11, fd12, fd13, fd14, fd15, fd16, fd17, fd18, fd19, fd20, a0, a1, a2, a4, a5, a6, a7, a9, a10, a11, a14⟩ := hM.q
  simp only [e131_0, e131_1, e131_4, e131_5, e131_6, e131_7, e131_10, e131_11, e131_12, e131_15, e131_16, zpush, zopt_some, ↓reduceIte, List.getElem?_cons_succ, List.getElem?_cons_zero, beq_self_eq_true, true_and, and_true, Bool.true_and, Bool.and_true, Bool.false_and, Bool.and_false, nI_1, not_true_eq_false, not_false_eq_true, vp_narI, o0, ↓fd0, ↓fd1, ↓fd2, ↓fd3, ↓fd4, ↓fd5, ↓fd6, ↓fd7, ↓fd8, ↓fd9, ↓fd10, ↓fd11, ↓fd12, ↓fd13, ↓fd14, ↓fd15, ↓fd16, ↓fd17, ↓fd18, ↓fd19, ↓fd20]
  refine c_M_keep hM (fun h1 M1 V1 E1 => ?_)
  obtain ⟨o0, fd0, fd1, fd2, fd3, fd4, fd5, fd6, fd7, fd8, fd9, fd10, fd11, fd12, fd13, fd14, fd15, fd16, fd17, fd18, fd19, fd20, a0, a1, a2, a4, a5, a6, a7, a9, a10, a11, a14⟩ := V1.mm.q
  simp only [e131_0, e131_1, e131_4, e131_5, e131_6, e131_7, e131_10, e131_11, e131_12, e131_15, e131_16, zpush, zopt_some, ↓reduceIte, List.getElem?_cons_succ, List.getElem?_cons_zero, beq_self_eq_true, true_and, and_true, Bool.true_and, Bool.and_true, Bool.false_and, Bool.and_false, nI_1, not_true_eq_false, not_false_eq_true, vp_narI, o0, ↓fd0, ↓fd1, ↓fd2, ↓fd3, ↓fd4, ↓fd5, ↓fd6, ↓fd7, ↓fd8, ↓fd9, ↓fd10, ↓fd11, ↓fd12, ↓fd13, ↓fd14, ↓fd15, ↓fd16, ↓fd17, ↓fd18, ↓fd19, ↓fd20]
  refine c_M_doWeigh V1.mm hg ((V1.k 0 rfl).trans eg) (fun h2 M2 V2 E2 => ?_)
  obtain ⟨o0, fd0, fd1, fd2, fd3, fd4, fd5, fd6, fd7, fd8, fd9, fd10, fd11, fd12, fd13, fd14, fd15, fd16, fd17, fd18, fd19, fd20, a0, a1, a2, a4, a5, a6, a7, a9, a10, a11, a14⟩ := V2.mm.q
  simp only [e131_0, e131_1, e131_4, e131_5, e131_6, e131_7, e131_10, e131_11, e131_12, e131_15, e131_16, zpush, zopt_some, ↓reduceIte, List.getElem?_cons_succ, List.getElem?_cons_zero, beq_self_eq_true, true_and, and_true, Bool.true_and, Bool.and_true, Bool.false_and, Bool.and_false, nI_1, not_true_eq_false, not_false_eq_true, vp_narI, o0, ↓fd0, ↓fd1, ↓fd2, ↓fd3, ↓fd4, ↓fd5, ↓fd6, ↓fd7, ↓fd8, ↓fd9, ↓fd10, ↓fd11, ↓fd12, ↓fd13, ↓fd14, ↓fd15, ↓fd16, ↓fd17, ↓fd18, ↓fd19, ↓fd20]
  refine c_M_giveBack V2.mm (fun h3 M3 V3 E3 => ?_)
  simp only [e131_0, e131_1, e131_4, e131_5, e131_6, e131_7, e131_10, e131_11, e131_12, e131_15, e131_16, zpush, zopt_some, ↓reduceIte, List.getElem?_cons_succ, List.getElem?_cons_zero, beq_self_eq_true, true_and, and_true, Bool.true_and, Bool.and_true, Bool.false_and, Bool.and_false, nI_1, not_true_eq_false, not_false_eq_true, vp_narI, o0, ↓fd0, ↓fd1, ↓fd2, ↓fd3, ↓fd4, ↓fd5, ↓fd6, ↓fd7, ↓fd8, ↓fd9, ↓fd10, ↓fd11, ↓fd12, ↓fd13, ↓fd14, ↓fd15, ↓fd16, ↓fd17, ↓fd18, ↓fd19, ↓fd20]
  exact hQ h3 M3 (((V1.mono (T' := [0, 1, 6, 7, 8, 9, 10, 11, 12, 13]) rfl).to V2 rfl).to V3 rfl) (fun k hk => by rw [E3 k hk, V2.k 1 rfl, E1 k hk, eg])
theorem l_M_bestWeight {s : Nat} {w had : Int32} (hg : zG g) (hs : s < gN g 2) (h0 : List zC) (M0 : Nat → Nat → Int32) (hQ : ∀ h' M' (x : Int32) (v7 v8 : Value), zMv [0, 6, 7, 8, 10, 11, 12, 13] h0 M0 h' M' → M' 0 = upd g (17 + s) x → Ev 134 135 [.ref 108, .int (nI s), .int w, .int had, .int (bwS g s 16).1, .int (bwS g s 16).2, .int (nI 17), v7, v8] [] (h', z) Q) :
    ∀ (j i : Nat) (x : Int32) (v7 v8 : Value) (h : List zC) (M : Nat → Nat → Int32), i + j = 16 → zMv [0, 6, 7, 8, 10, 11, 12, 13] h0 M0 h M → M 0 = upd g (17 + s) x → Ev 134 58 [.ref 108, .int (nI s), .int w, .int had, .int (bwS g s i).1, .int (bwS g s i).2, .int (nI (i + 1)), v7, v8] [] (h, z) Q := by
  have b2 := hg.2.2.1.2
  intro j
  induction j with
  | zero =>
    intro i x v7 v8 h M hi V eg
    have hi : i = 16 := by omega
    subst hi
    have e1 : (16 : Int32) < nI 17 := by decide
    rw [e134_58]
    simp only [e134_0, e134_1, e134_2, e134_5, e134_8, e134_9, e134_10, e134_11, e134_12, e134_13, e134_14, e134_17, e134_20, e134_22, e134_23, e134_24, e134_27, e134_29, e134_30, e134_31, e134_32, e134_33, e134_36, e134_38, e134_39, e134_40, e134_43, e134_45, e134_46, e134_47, e134_48, e134_49, e134_50, e134_52, e134_53, e134_55, e134_56, e134_60, e134_62, e134_65, e134_66, e134_69, e134_71, e134_72, e134_73, e134_75, e134_76, e134_77, e134_80, e134_82, e134_84, e134_87, e134_89, e134_91, e134_94, e134_95, e134_98, e134_99, e134_101, e134_103, e134_106, e134_108, e134_111, e134_113, e134_115, e134_117, e134_120, e134_122, e134_125, e134_127, e134_129, e134_132, e134_136, e134_139, e134_141, e134_142, e134_143, e134_144, e134_145, e134_146, e134_149, e134_151, e134_154, e134_156, zpush, zopt_some, ↓reduceIte, List.getElem?_cons_succ, List.getElem?_cons_zero, beq_self_eq_true, true_and, and_true, Bool.true_and, Bool.and_true, Bool.false_and, Bool.and_false, nI_1, not_true_eq_false, not_false_eq_true, vp_narI, e1]
    exact hQ h M x v7 v8 V eg
  | succ j ih =>
    intro i x v7 v8 h M hi V eg
    obtain ⟨o0, fd0, fd1, fd2, fd3, fd4, fd5, fd6, fd7, fd8, fd9, fd10, fd11, fd12, fd13, fd14, fd15, fd16, fd17, fd18, fd19, fd20, a0, a1, a2, a4, a5, a6, a7, a9, a10, a11, a14⟩ := V.mm.q
    have e1 : ¬ (16 : Int32) < nI (i + 1) := nI_nlt (a := 16) (by omega) (by omega)
    rw [e134_58]
    simp only [e134_0, e134_1, e134_2, e134_5, e134_8, e134_9, e134_10, e134_11, e134_12, e134_13, e134_14, e134_17, e134_20, e134_22, e134_23, e134_24, e134_27, e134_29, e134_30, e134_31, e134_32, e134_33, e134_36, e134_38, e134_39, e134_40, e134_43, e134_45, e134_46, e134_47, e134_48, e134_49, e134_50, e134_52, e134_53, e134_55, e134_56, e134_60, e134_62, e134_65, e134_66, e134_69, e134_71, e134_72, e134_73, e134_76, e134_77, e134_80, e134_82, e134_84, e134_87, e134_89, e134_91, e134_94, e134_95, e134_98, e134_99, e134_101, e134_103, e134_106, e134_108, e134_111, e134_113, e134_115, e134_117, e134_120, e134_122, e134_125, e134_127, e134_129, e134_132, e134_136, e134_139, e134_141, e134_142, e134_143, e134_144, e134_145, e134_146, e134_149, e134_151, e134_154, e134_156, zpush, zopt_some, ↓reduceIte, List.getElem?_cons_succ, List.getElem?_cons_zero, beq_self_eq_true, true_and, and_true, Bool.true_and, Bool.and_true, Bool.false_and, Bool.and_false, nI_1, not_true_eq_false, not_false_eq_true, vp_narI, k5, k17, k29, k41, k81, k121, j484_0, cl_0, j484_1, cl_1, j484_2, cl_2, j484_3, cl_3, j484_4, cl_4, o0, ↓fd0, ↓fd1, ↓fd2, ↓fd3, ↓fd4, ↓fd5, ↓fd6, ↓fd7, ↓fd8, ↓fd9, ↓fd10, ↓fd11, ↓fd12, ↓fd13, ↓fd14, ↓fd15, ↓fd16, ↓fd17, ↓fd18, ↓fd19, ↓fd20, e1]
    rw [e134_75]
    refine V.mm.w0 rfl (by omega) (fun h2 M2 V2 E2 => ?_)
    have e0 : M2 0 = upd g (17 + s) (nI (i + 1)) := by
      rw [E2, eg]
      funext q
      by_cases e : q = 17 + s
      · subst e; rw [upd_s, upd_s]
      · rw [upd_n e, upd_n e, upd_n e]
    have hg' : zG (upd g (17 + s) (nI (i + 1))) := zG_weigh hg (by omega) (by omega)
    have e2n : gN (upd g (17 + s) (nI (i + 1))) 2 = gN g 2 := by unfold gN; rw [upd_n (by omega)]
    obtain ⟨o0, fd0, fd1, fd2, fd3, fd4, fd5, fd6, fd7, fd8, fd9, fd10, fd11, fd12, fd13, fd14, fd15, fd16, fd17, fd18, fd19, fd20, a0, a1, a2, a4, a5, a6, a7, a9, a10, a11, a14⟩ := V2.mm.q
    simp only [e134_0, e134_1, e134_2, e134_5, e134_8, e134_9, e134_10, e134_11, e134_12, e134_13, e134_14, e134_17, e134_20, e134_22, e134_23, e134_24, e134_27, e134_29, e134_30, e134_31, e134_32, e134_33, e134_36, e134_38, e134_39, e134_40, e134_43, e134_45, e134_46, e134_47, e134_48, e134_49, e134_50, e134_52, e134_53, e134_55, e134_56, e134_60, e134_62, e134_65, e134_66, e134_69, e134_71, e134_72, e134_73, e134_76, e134_77, e134_80, e134_82, e134_84, e134_87, e134_89, e134_91, e134_94, e134_95, e134_98, e134_99, e134_101, e134_103, e134_106, e134_108, e134_111, e134_113, e134_115, e134_117, e134_120, e134_122, e134_125, e134_127, e134_129, e134_132, e134_136, e134_139, e134_141, e134_142, e134_143, e134_144, e134_145, e134_146, e134_149, e134_151, e134_154, e134_156, zpush, zopt_some, ↓reduceIte, List.getElem?_cons_succ, List.getElem?_cons_zero, beq_self_eq_true, true_and, and_true, Bool.true_and, Bool.and_true, Bool.false_and, Bool.and_false, nI_1, not_true_eq_false, not_false_eq_true, vp_narI, o0, ↓fd0, ↓fd1, ↓fd2, ↓fd3, ↓fd4, ↓fd5, ↓fd6, ↓fd7, ↓fd8, ↓fd9, ↓fd10, ↓fd11, ↓fd12, ↓fd13, ↓fd14, ↓fd15, ↓fd16, ↓fd17, ↓fd18, ↓fd19, ↓fd20]
    refine c_M_unevenness V2.mm hg' e0 (fun h3 M3 V3 => ?_)
    rw [e2n]
    have ih := fun v7 v8 => ih (i + 1) (nI (i + 1)) v7 v8 h3 M3 (by omega) ((V.to V2 rfl).to V3 rfl) ((V3.k 0 rfl).trans e0)
    rw [bwS] at ih
    by_cases h5 : (bwS g s i).1 = 0
    · rw [if_pos (Or.inl h5)] at ih
      simp only [e134_0, e134_1, e134_2, e134_5, e134_8, e134_9, e134_10, e134_11, e134_12, e134_13, e134_14, e134_17, e134_20, e134_22, e134_23, e134_24, e134_27, e134_29, e134_30, e134_31, e134_32, e134_33, e134_36, e134_38, e134_39, e134_40, e134_43, e134_45, e134_46, e134_47, e134_48, e134_49, e134_50, e134_52, e134_53, e134_55, e134_56, e134_60, e134_62, e134_65, e134_66, e134_69, e134_71, e134_72, e134_73, e134_76, e134_77, e134_80, e134_82, e134_84, e134_87, e134_89, e134_91, e134_94, e134_95, e134_98, e134_99, e134_101, e134_103, e134_106, e134_108, e134_111, e134_113, e134_115, e134_117, e134_120, e134_122, e134_125, e134_127, e134_129, e134_132, e134_136, e134_139, e134_141, e134_142, e134_143, e134_144, e134_145, e134_146, e134_149, e134_151, e134_154, e134_156, zpush, zopt_some, ↓reduceIte, List.getElem?_cons_succ, List.getElem?_cons_zero, beq_self_eq_true, true_and, and_true, Bool.true_and, Bool.and_true, Bool.false_and, Bool.and_false, nI_1, not_true_eq_false, not_false_eq_true, vp_narI, h5, (show ¬ (1 : Int32) = 0 by decide)]
      exact ih _ _
    · by_cases h6 : unv (upd g (17 + s) (nI (i + 1))) (gN g 2) < (bwS g s i).2
      · have h6' : ¬ (bwS g s i).2 ≤ unv (upd g (17 + s) (nI (i + 1))) (gN g 2) := Int32.not_le.mpr h6
        rw [if_pos (Or.inr h6)] at ih
        simp only [e134_0, e134_1, e134_2, e134_5, e134_8, e134_9, e134_10, e134_11, e134_12, e134_13, e134_14, e134_17, e134_20, e134_22, e134_23, e134_24, e134_27, e134_29, e134_30, e134_31, e134_32, e134_33, e134_36, e134_38, e134_39, e134_40, e134_43, e134_45, e134_46, e134_47, e134_48, e134_49, e134_50, e134_52, e134_53, e134_55, e134_56, e134_60, e134_62, e134_65, e134_66, e134_69, e134_71, e134_72, e134_73, e134_76, e134_77, e134_80, e134_82, e134_84, e134_87, e134_89, e134_91, e134_94, e134_95, e134_98, e134_99, e134_101, e134_103, e134_106, e134_108, e134_111, e134_113, e134_115, e134_117, e134_120, e134_122, e134_125, e134_127, e134_129, e134_132, e134_136, e134_139, e134_141, e134_142, e134_143, e134_144, e134_145, e134_146, e134_149, e134_151, e134_154, e134_156, zpush, zopt_some, ↓reduceIte, List.getElem?_cons_succ, List.getElem?_cons_zero, beq_self_eq_true, true_and, and_true, Bool.true_and, Bool.and_true, Bool.false_and, Bool.and_false, nI_1, not_true_eq_false, not_false_eq_true, vp_narI, h5, h6', (show ¬ (1 : Int32) = 0 by decide)]
        exact ih _ _
      · have h6' : (bwS g s i).2 ≤ unv (upd g (17 + s) (nI (i + 1))) (gN g 2) := Int32.not_lt.mp h6
        rw [if_neg (by rw [not_or]; exact ⟨h5, h6⟩)] at ih
        simp only [e134_0, e134_1, e134_2, e134_5, e134_8, e134_9, e134_10, e134_11, e134_12, e134_13, e134_14, e134_17, e134_20, e134_22, e134_23, e134_24, e134_27, e134_29, e134_30, e134_31, e134_32, e134_33, e134_36, e134_38, e134_39, e134_40, e134_43, e134_45, e134_46, e134_47, e134_48, e134_49, e134_50, e134_52, e134_53, e134_55, e134_56, e134_60, e134_62, e134_65, e134_66, e134_69, e134_71, e134_72, e134_73, e134_76, e134_77, e134_80, e134_82, e134_84, e134_87, e134_89, e134_91, e134_94, e134_95, e134_98, e134_99, e134_101, e134_103, e134_106, e134_108, e134_111, e134_113, e134_115, e134_117, e134_120, e134_122, e134_125, e134_127, e134_129, e134_132, e134_136, e134_139, e134_141, e134_142, e134_143, e134_144, e134_145, e134_146, e134_149, e134_151, e134_154, e134_156, zpush, zopt_some, ↓reduceIte, List.getElem?_cons_succ, List.getElem?_cons_zero, beq_self_eq_true, true_and, and_true, Bool.true_and, Bool.and_true, Bool.false_and, Bool.and_false, nI_1, not_true_eq_false, not_false_eq_true, vp_narI, h5, h6']
        exact ih _ _
theorem c_M_bestWeight {s w : Int32} (hM : zMM h M) (hg : zG g) (eg : M 0 = g) (hQ : ∀ h' M', zMv [0, 1, 6, 7, 8, 9, 10, 11, 12, 13] h M h' M' → (∀ k, k < 484 → M' 0 k = g k) → Q (some (.int (qBw g s w))) (h', z)) : Ev 134 0 [.ref 108, .int s, .int w, zU, zU, zU, zU, zU, zU] [] (h, z) Q := by
  obtain ⟨o0, fd0, fd1, fd2, fd3, fd4, fd5, fd6, fd7, fd8, fd9, fd10, fd11, fd12, fd13, fd14, fd15, fd16, fd17, fd18, fd19, fd20, a0, a1, a2, a4, a5, a6, a7, a9, a10, a11, a14⟩ := hM.q
  have hV := fun (Q : Option Value → zX → Prop) => c_M_isServer (s := s) (z := z) (Q := Q) hM (by rw [eg]; exact hg)
  rw [eg] at hV a0
  have b2 := hg.2.2.1.2
  have n1 : ¬ (1 : Int32) = 0 := by decide
  have e' := zin_in (s := w) (H := 1) (n := 2) rfl
  unfold qBw at hQ
  by_cases h1 : zinb s (gN g 2) = true
  · obtain ⟨j, hj, rfl⟩ := zinb_ex h1 (by omega)
    have ej : (nI j).toNatClampNeg = j := nI_clamp (by omega)
    rw [if_pos h1, ej] at hQ
    have i1 : zinb (nI (29 + j)) 484 = true := zinb_nI (by omega) (by decide)
    have i2 : (nI (29 + j)).toNatClampNeg = 29 + j := nI_clamp (by omega)
    have i3 : zinb (nI (17 + j)) 484 = true := zinb_nI (by omega) (by decide)
    have i4 : (nI (17 + j)).toNatClampNeg = 17 + j := nI_clamp (by omega)
    by_cases h2' : w = 0 ∨ w = 1
    · have h2 : zinb w 2 = true := by rw [zinb_2]; exact h2'
      rw [if_pos h2'] at hQ
      by_cases h3 : g (29 + j) = 0
      · rw [if_pos h3] at hQ
        simp only [e134_0, e134_1, e134_2, e134_5, e134_8, e134_9, e134_10, e134_11, e134_12, e134_13, e134_14, e134_17, e134_20, e134_22, e134_23, e134_24, e134_27, e134_29, e134_30, e134_31, e134_32, e134_33, e134_36, e134_38, e134_39, e134_40, e134_43, e134_45, e134_46, e134_47, e134_48, e134_49, e134_50, e134_52, e134_53, e134_55, e134_56, e134_60, e134_62, e134_65, e134_66, e134_69, e134_71, e134_72, e134_73, e134_75, e134_76, e134_77, e134_80, e134_82, e134_84, e134_87, e134_89, e134_91, e134_94, e134_95, e134_98, e134_99, e134_101, e134_103, e134_106, e134_108, e134_111, e134_113, e134_115, e134_117, e134_120, e134_122, e134_125, e134_127, e134_129, e134_132, e134_135, e134_136, e134_139, e134_141, e134_142, e134_143, e134_144, e134_145, e134_146, e134_149, e134_151, e134_154, e134_156, zpush, zopt_some, ↓reduceIte, List.getElem?_cons_succ, List.getElem?_cons_zero, beq_self_eq_true, true_and, and_true, Bool.true_and, Bool.and_true, Bool.false_and, Bool.and_false, nI_1, not_true_eq_false, not_false_eq_true, vp_narI, k5, k17, k29, k41, k81, k121, j484_0, cl_0, j484_1, cl_1, j484_2, cl_2, j484_3, cl_3, j484_4, cl_4, o0, ↓fd0, ↓fd1, ↓fd2, ↓fd3, ↓fd4, ↓fd5, ↓fd6, ↓fd7, ↓fd8, ↓fd9, ↓fd10, ↓fd11, ↓fd12, ↓fd13, ↓fd14, ↓fd15, ↓fd16, ↓fd17, ↓fd18, ↓fd19, ↓fd20, ↓a0, hV, h1, c_M_in, e', h2, h3, i1, i2, i3, i4, zb_t, n1, (show ¬ (0 : Int32) = 1 by decide), not_false_eq_true]
        refine l_M_bestWeight (s := j) (w := w) (had := g (17 + j)) hg hj h M (fun h3' M3 x v7 v8 V3 E3 => ?_) 16 0 (g (17 + j)) _ _ h M rfl hM.rf (by rw [eg, upd_same])
        obtain ⟨o0, fd0, fd1, fd2, fd3, fd4, fd5, fd6, fd7, fd8, fd9, fd10, fd11, fd12, fd13, fd14, fd15, fd16, fd17, fd18, fd19, fd20, a0, a1, a2, a4, a5, a6, a7, a9, a10, a11, a14⟩ := V3.mm.q
        rw [e134_135]
        simp only [e134_0, e134_1, e134_2, e134_5, e134_8, e134_9, e134_10, e134_11, e134_12, e134_13, e134_14, e134_17, e134_20, e134_22, e134_23, e134_24, e134_27, e134_29, e134_30, e134_31, e134_32, e134_33, e134_36, e134_38, e134_39, e134_40, e134_43, e134_45, e134_46, e134_47, e134_48, e134_49, e134_50, e134_52, e134_53, e134_55, e134_56, e134_60, e134_62, e134_65, e134_66, e134_69, e134_71, e134_72, e134_73, e134_75, e134_76, e134_77, e134_80, e134_82, e134_84, e134_87, e134_89, e134_91, e134_94, e134_95, e134_98, e134_99, e134_101, e134_103, e134_106, e134_108, e134_111, e134_113, e134_115, e134_117, e134_120, e134_122, e134_125, e134_127, e134_129, e134_132, e134_136, e134_139, e134_141, e134_142, e134_143, e134_145, e134_146, e134_149, e134_151, e134_154, e134_156, zpush, zopt_some, ↓reduceIte, List.getElem?_cons_succ, List.getElem?_cons_zero, beq_self_eq_true, true_and, and_true, Bool.true_and, Bool.and_true, Bool.false_and, Bool.and_false, nI_1, not_true_eq_false, not_false_eq_true, vp_narI, k5, k17, k29, k41, k81, k121, j484_0, cl_0, j484_1, cl_1, j484_2, cl_2, j484_3, cl_3, j484_4, cl_4, o0, ↓fd0, ↓fd1, ↓fd2, ↓fd3, ↓fd4, ↓fd5, ↓fd6, ↓fd7, ↓fd8, ↓fd9, ↓fd10, ↓fd11, ↓fd12, ↓fd13, ↓fd14, ↓fd15, ↓fd16, ↓fd17, ↓fd18, ↓fd19, ↓fd20]
        rw [e134_144]
        refine V3.mm.w0 rfl (by omega) (fun h4 M4 V4 E4 => ?_)
        have hQ := hQ h4 M4 ((V3.mono (T' := [0, 1, 6, 7, 8, 9, 10, 11, 12, 13]) rfl).to V4 rfl) (fun k hk => by
          rw [E4, E3]
          by_cases e : k = 17 + j
          · subst e; rw [upd_s]
          · rw [upd_n e, upd_n e])
        by_cases h5 : w = 0
        · rw [if_pos h5] at hQ
          simp only [e134_0, e134_1, e134_2, e134_5, e134_8, e134_9, e134_10, e134_11, e134_12, e134_13, e134_14, e134_17, e134_20, e134_22, e134_23, e134_24, e134_27, e134_29, e134_30, e134_31, e134_32, e134_33, e134_36, e134_38, e134_39, e134_40, e134_43, e134_45, e134_46, e134_47, e134_48, e134_49, e134_50, e134_52, e134_53, e134_55, e134_56, e134_60, e134_62, e134_65, e134_66, e134_69, e134_71, e134_72, e134_73, e134_75, e134_76, e134_77, e134_80, e134_82, e134_84, e134_87, e134_89, e134_91, e134_94, e134_95, e134_98, e134_99, e134_101, e134_103, e134_106, e134_108, e134_111, e134_113, e134_115, e134_117, e134_120, e134_122, e134_125, e134_127, e134_129, e134_132, e134_136, e134_139, e134_141, e134_142, e134_143, e134_144, e134_145, e134_146, e134_149, e134_151, e134_154, e134_156, zpush, zopt_some, ↓reduceIte, List.getElem?_cons_succ, List.getElem?_cons_zero, beq_self_eq_true, true_and, and_true, Bool.true_and, Bool.and_true, Bool.false_and, Bool.and_false, nI_1, not_true_eq_false, not_false_eq_true, vp_narI, h5, not_true_eq_false]
          exact hQ
        · rw [if_neg h5] at hQ
          simp only [e134_0, e134_1, e134_2, e134_5, e134_8, e134_9, e134_10, e134_11, e134_12, e134_13, e134_14, e134_17, e134_20, e134_22, e134_23, e134_24, e134_27, e134_29, e134_30, e134_31, e134_32, e134_33, e134_36, e134_38, e134_39, e134_40, e134_43, e134_45, e134_46, e134_47, e134_48, e134_49, e134_50, e134_52, e134_53, e134_55, e134_56, e134_60, e134_62, e134_65, e134_66, e134_69, e134_71, e134_72, e134_73, e134_75, e134_76, e134_77, e134_80, e134_82, e134_84, e134_87, e134_89, e134_91, e134_94, e134_95, e134_98, e134_99, e134_101, e134_103, e134_106, e134_108, e134_111, e134_113, e134_115, e134_117, e134_120, e134_122, e134_125, e134_127, e134_129, e134_132, e134_136, e134_139, e134_141, e134_142, e134_143, e134_144, e134_145, e134_146, e134_149, e134_151, e134_154, e134_156, zpush, zopt_some, ↓reduceIte, List.getElem?_cons_succ, List.getElem?_cons_zero, beq_self_eq_true, true_and, and_true, Bool.true_and, Bool.and_true, Bool.false_and, Bool.and_false, nI_1, not_true_eq_false, not_false_eq_true, vp_narI, h5, not_false_eq_true]
          exact hQ
      · rw [if_neg h3] at hQ
        have h3' : g (29 + j) = 1 := by rcases (hg.2.2.2.2.2.1 j hj).2.2 with h | h; exact absurd h h3; exact h
        simp only [e134_0, e134_1, e134_2, e134_5, e134_8, e134_9, e134_10, e134_11, e134_12, e134_13, e134_14, e134_17, e134_20, e134_22, e134_23, e134_24, e134_27, e134_29, e134_30, e134_31, e134_32, e134_33, e134_36, e134_38, e134_40, e134_43, e134_45, e134_46, e134_47, e134_48, e134_49, e134_50, e134_52, e134_53, e134_55, e134_56, e134_58, e134_60, e134_62, e134_65, e134_66, e134_69, e134_71, e134_72, e134_73, e134_75, e134_76, e134_77, e134_80, e134_82, e134_84, e134_87, e134_89, e134_91, e134_94, e134_95, e134_98, e134_99, e134_101, e134_103, e134_106, e134_108, e134_111, e134_113, e134_115, e134_117, e134_120, e134_122, e134_125, e134_127, e134_129, e134_132, e134_135, e134_136, e134_139, e134_141, e134_142, e134_143, e134_144, e134_145, e134_146, e134_149, e134_151, e134_154, e134_156, zpush, zopt_some, ↓reduceIte, List.getElem?_cons_succ, List.getElem?_cons_zero, beq_self_eq_true, true_and, and_true, Bool.true_and, Bool.and_true, Bool.false_and, Bool.and_false, nI_1, not_true_eq_false, not_false_eq_true, vp_narI, k5, k17, k29, k41, k81, k121, j484_0, cl_0, j484_1, cl_1, j484_2, cl_2, j484_3, cl_3, j484_4, cl_4, o0, ↓fd0, ↓fd1, ↓fd2, ↓fd3, ↓fd4, ↓fd5, ↓fd6, ↓fd7, ↓fd8, ↓fd9, ↓fd10, ↓fd11, ↓fd12, ↓fd13, ↓fd14, ↓fd15, ↓fd16, ↓fd17, ↓fd18, ↓fd19, ↓fd20, ↓a0, hV, h1, c_M_in, e', h2, h3', i1, i2, zb_t, n1, not_false_eq_true, not_true_eq_false]
        exact hQ h M hM.rf (fun k _ => by rw [eg])
    · have h2 : ¬ zinb w 2 = true := by rw [zinb_2]; exact h2'
      rw [if_neg h2'] at hQ
      rw [Bool.not_eq_true] at h2
      simp only [e134_0, e134_1, e134_2, e134_5, e134_8, e134_9, e134_10, e134_11, e134_12, e134_13, e134_14, e134_17, e134_20, e134_22, e134_24, e134_27, e134_29, e134_30, e134_31, e134_32, e134_33, e134_36, e134_38, e134_39, e134_40, e134_43, e134_45, e134_46, e134_47, e134_48, e134_49, e134_50, e134_52, e134_53, e134_55, e134_56, e134_58, e134_60, e134_62, e134_65, e134_66, e134_69, e134_71, e134_72, e134_73, e134_75, e134_76, e134_77, e134_80, e134_82, e134_84, e134_87, e134_89, e134_91, e134_94, e134_95, e134_98, e134_99, e134_101, e134_103, e134_106, e134_108, e134_111, e134_113, e134_115, e134_117, e134_120, e134_122, e134_125, e134_127, e134_129, e134_132, e134_135, e134_136, e134_139, e134_141, e134_142, e134_143, e134_144, e134_145, e134_146, e134_149, e134_151, e134_154, e134_156, zpush, zopt_some, ↓reduceIte, List.getElem?_cons_succ, List.getElem?_cons_zero, beq_self_eq_true, true_and, and_true, Bool.true_and, Bool.and_true, Bool.false_and, Bool.and_false, nI_1, not_true_eq_false, not_false_eq_true, vp_narI, k5, k17, k29, k41, k81, k121, j484_0, cl_0, j484_1, cl_1, j484_2, cl_2, j484_3, cl_3, j484_4, cl_4, o0, ↓fd0, ↓fd1, ↓fd2, ↓fd3, ↓fd4, ↓fd5, ↓fd6, ↓fd7, ↓fd8, ↓fd9, ↓fd10, ↓fd11, ↓fd12, ↓fd13, ↓fd14, ↓fd15, ↓fd16, ↓fd17, ↓fd18, ↓fd19, ↓fd20, hV, h1, c_M_in, e', h2, zb_t, zb_f, n1, not_false_eq_true]
      exact hQ h M hM.rf (fun k _ => by rw [eg])
  · rw [if_neg h1] at hQ
    rw [Bool.not_eq_true] at h1
    simp only [e134_0, e134_1, e134_2, e134_5, e134_8, e134_9, e134_11, e134_12, e134_13, e134_14, e134_17, e134_20, e134_22, e134_23, e134_24, e134_27, e134_29, e134_30, e134_31, e134_32, e134_33, e134_36, e134_38, e134_39, e134_40, e134_43, e134_45, e134_46, e134_47, e134_48, e134_49, e134_50, e134_52, e134_53, e134_55, e134_56, e134_58, e134_60, e134_62, e134_65, e134_66, e134_69, e134_71, e134_72, e134_73, e134_75, e134_76, e134_77, e134_80, e134_82, e134_84, e134_87, e134_89, e134_91, e134_94, e134_95, e134_98, e134_99, e134_101, e134_103, e134_106, e134_108, e134_111, e134_113, e134_115, e134_117, e134_120, e134_122, e134_125, e134_127, e134_129, e134_132, e134_135, e134_136, e134_139, e134_141, e134_142, e134_143, e134_144, e134_145, e134_146, e134_149, e134_151, e134_154, e134_156, zpush, zopt_some, ↓reduceIte, List.getElem?_cons_succ, List.getElem?_cons_zero, beq_self_eq_true, true_and, and_true, Bool.true_and, Bool.and_true, Bool.false_and, Bool.and_false, nI_1, not_true_eq_false, not_false_eq_true, vp_narI, o0, ↓fd0, ↓fd1, ↓fd2, ↓fd3, ↓fd4, ↓fd5, ↓fd6, ↓fd7, ↓fd8, ↓fd9, ↓fd10, ↓fd11, ↓fd12, ↓fd13, ↓fd14, ↓fd15, ↓fd16, ↓fd17, ↓fd18, ↓fd19, ↓fd20, hV, h1, zb_f]
    exact hQ h M hM.rf (fun k _ => by rw [eg])
end ZC
end
