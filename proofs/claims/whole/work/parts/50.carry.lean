/-! orders are carried out -/
section
set_option maxRecDepth 100000
section ZG
variable {a : Nat → Int32}
theorem zG_chS {s v : Int32} (hg : zG a) : zG (chS a s v).2 := by
  unfold chS
  split
  next h =>
    obtain ⟨-, h1, h2⟩ := h
    have h0 : ¬ v < 0 := Int32.not_lt.mpr (Int32.le_trans (by decide) h1)
    obtain ⟨c, hc, rfl⟩ := nI_of h0
    exact (fmA_ok (zG_cop hg ((nI_leI (by decide) hc).mp h1) ((nI_leI hc (by decide)).mp h2))).1
  next =>
    split
    next h => obtain ⟨c, hc, rfl⟩ := zinb_ex h.2 (by decide); exact (fmA_ok (zG_salt hg (by omega))).1
    next => exact hg
theorem zG_chB {r w : Int32} (hg : zG a) : zG (chB a r w).2 := by
  unfold chB
  split
  next h =>
    obtain ⟨r', hr, rfl⟩ := zinb_ex h.1 (by decide)
    obtain ⟨w', hw, rfl⟩ := zinb_ex h.2 (by decide)
    split
    next h2 => exact (fmA_ok (zG_bld hg h2 hr (by omega))).1
    next => exact hg
  next => exact hg
theorem zG_chW {s w : Int32} (hg : zG a) : zG (chW a s w).2 := by
  have b2 := hg.2.2.1.2
  unfold chW
  split
  next h =>
    obtain ⟨s', hs, rfl⟩ := zinb_ex h (by omega)
    split
    next h2 =>
      obtain ⟨w', hw, rfl⟩ := zinb_ex h2 (by decide)
      rw [nI_clamp (by omega)]
      exact (fmA_ok (zG_weigh hg (by omega) (by omega))).1
    next => exact hg
  next => exact hg
theorem zG_chR {s w : Int32} (hg : zG a) : zG (chR a s w).2 := by
  have b2 := hg.2.2.1.2
  unfold chR
  split
  next h =>
    obtain ⟨s', hs, rfl⟩ := zinb_ex h (by omega)
    split
    next h2 =>
      obtain ⟨w', hw, rfl⟩ := zinb_ex h2 (by decide)
      rw [nI_clamp (by omega)]
      exact (fmA_ok (zG_rack hg (by omega) hw)).1
    next => exact hg
  next => exact hg
theorem zG_chD {s d : Int32} (hg : zG a) (hd : d = 0 ∨ d = 1) : zG (chD a s d).2 := by
  have b2 := hg.2.2.1.2
  unfold chD
  split
  next h =>
    obtain ⟨s', hs, rfl⟩ := zinb_ex h (by omega)
    rw [nI_clamp (by omega)]
    split
    next => exact hg
    next => exact (fmA_ok (zG_down hg (by omega) hd)).1
  next => exact hg
theorem zG_chK {o : Int32} (hg : zG a) : zG (chK a o).2 := by
  unfold chK
  split
  next h =>
    obtain ⟨c, hc, rfl⟩ := zinb_ex h (by decide)
    split
    next h2 =>
      split
      next => exact zG_insA hg h2 (by omega)
      next => exact hg
    next => exact hg
  next => exact hg
theorem zG_chX {o : Int32} (hg : zG a) : zG (chX a o).2 := by
  unfold chX
  split
  next => exact hg
  next => exact zG_remA hg
theorem zG_chP {o v : Int32} (hg : zG a) : zG (chP a o v).2 := by
  have b2 := hg.2.2.1.2
  have b3 := hg.2.2.2.1.2
  unfold chP
  split
  next => exact hg
  next h =>
    obtain ⟨q, h1, h2, h3, h4⟩ := fnd_ok hg h
    split
    next h5 =>
      refine (fmA_ok (zG_pin hg (by omega) ?_)).1
      rcases h5 with h5 | h5
      · exact Or.inl h5
      · obtain ⟨c, hc, rfl⟩ := zinb_ex h5 (by omega)
        exact Or.inr ⟨c, hc, rfl⟩
    next => exact hg
def ordA (a : Nat → Int32) (c fi se : Int32) : Int32 × (Nat → Int32) :=
  if c = 43 then chK a fi else if c = 45 then chX a fi else if c = 119 then chW a fi se else if c = 100 then chD a fi 1 else if c = 117 then chD a fi 0 else if c = 112 then chP a fi se else (-3, a)
theorem zG_ordA {c fi se : Int32} (hg : zG a) : zG (ordA a c fi se).2 := by
  unfold ordA
  repeat' split
  · exact zG_chK hg
  · exact zG_chX hg
  · exact zG_chW hg
  · exact zG_chD hg (Or.inr rfl)
  · exact zG_chD hg (Or.inl rfl)
  · exact zG_chP hg
  · exact hg
end ZG
def cry (f : Nat → Int32) (l : Nat) : Nat → Nat → Nat → (Nat → Int32) → Nat × (Nat → Int32)
  | 0, d, _, a => (d, a)
  | k + 1, d, p, a => if (rdO f l p).1 = true then (if (ordA a (f p) (rdV f l (p + 1)) (rdO f l p).2.2).1 < 0 then (d, (ordA a (f p) (rdV f l (p + 1)) (rdO f l p).2.2).2) else cry f l k (d + 1) (skA f l (rdO f l p).2.1 59) (ordA a (f p) (rdV f l (p + 1)) (rdO f l p).2.2).2) else (d, a)
section ZC
variable {h : List zC} {z : Nat × (Nat × (Nat → Int32))} {a : Nat → Int32} {Q : Option Value → zX → Prop} {n l P T : Nat} {H S : Nat → Nat → Int32} {sv f : Nat → Int32}
theorem c_D_carryOrder {p : Nat} {c fi se : Int32} (hg : zG a) (hK : zKo h P T a) (hP : zPx h l p c fi se f) (hQ : ∀ (h' : List zC) (P' T' : Nat), zFr zWr h h' → zKo h' P' T' (ordA a c fi se).2 → Q (some (.int (ordA a c fi se).1)) (h', z)) :
    Ev 72 0 [.ref 0] [] (h, z) Q := by
  have D0 : h[0]? = some (zob 5 [.ref 1, .ref 10, .ref 75, .ref 76, .ref 77, .ref 80, .ref P, .ref T]) := hK.1.2.1
  have x0 := hP.1
  unfold ordA at hQ
  by_cases c1 : c = 43
  · subst c1
    simp only [↓reduceIte] at hQ
    simp only [e72_0, e72_1, e72_4, e72_7_c43, e72_7_c45, e72_7_c100, e72_7_c112, e72_7_c117, e72_7_c119, e72_64, e72_65, e72_66, e72_69, e72_72, e72_75, e72_76, e72_77, e72_78, e72_81, e72_84, e72_87, e72_88, e72_89, e72_90, e72_93, e72_96, e72_97, e72_100, e72_103, e72_106, e72_107, e72_108, e72_109, e72_112, e72_115, e72_116, e72_119, e72_120, e72_121, e72_122, e72_125, e72_128, e72_129, e72_132, e72_133, e72_134, e72_135, e72_138, e72_141, e72_142, e72_145, e72_148, e72_151, e72_152, e72_154, zgF, zgA, zgR, zisO, zpush, zopt_some, ↓reduceIte, List.getElem?_cons_succ, List.getElem?_cons_zero, beq_self_eq_true, true_and, and_true, Bool.true_and, Bool.and_true, Bool.false_and, Bool.and_false, nI_1, not_true_eq_false, not_false_eq_true, vp_narI, D0, x0]
    refine c_D_keepObject hg hK (fun h1 P1 T1 F1 K1 => ?_)
    simp only [e72_0, e72_1, e72_4, e72_7_c43, e72_7_c45, e72_7_c100, e72_7_c112, e72_7_c117, e72_7_c119, e72_64, e72_65, e72_66, e72_69, e72_72, e72_75, e72_76, e72_77, e72_78, e72_81, e72_84, e72_87, e72_88, e72_89, e72_90, e72_93, e72_96, e72_97, e72_100, e72_103, e72_106, e72_107, e72_108, e72_109, e72_112, e72_115, e72_116, e72_119, e72_120, e72_121, e72_122, e72_125, e72_128, e72_129, e72_132, e72_133, e72_134, e72_135, e72_138, e72_141, e72_142, e72_145, e72_148, e72_151, e72_152, e72_154, zgF, zgA, zgR, zisO, zpush, zopt_some, ↓reduceIte, List.getElem?_cons_succ, List.getElem?_cons_zero, beq_self_eq_true, true_and, and_true, Bool.true_and, Bool.and_true, Bool.false_and, Bool.and_false, nI_1, not_true_eq_false, not_false_eq_true, vp_narI]
    exact hQ h1 P1 T1 F1 K1
  rw [if_neg c1] at hQ
  by_cases c2 : c = 45
  · subst c2
    simp only [↓reduceIte] at hQ
    simp only [e72_0, e72_1, e72_4, e72_7_c43, e72_7_c45, e72_7_c100, e72_7_c112, e72_7_c117, e72_7_c119, e72_64, e72_65, e72_66, e72_69, e72_72, e72_75, e72_76, e72_77, e72_78, e72_81, e72_84, e72_87, e72_88, e72_89, e72_90, e72_93, e72_96, e72_97, e72_100, e72_103, e72_106, e72_107, e72_108, e72_109, e72_112, e72_115, e72_116, e72_119, e72_120, e72_121, e72_122, e72_125, e72_128, e72_129, e72_132, e72_133, e72_134, e72_135, e72_138, e72_141, e72_142, e72_145, e72_148, e72_151, e72_152, e72_154, zgF, zgA, zgR, zisO, zpush, zopt_some, ↓reduceIte, List.getElem?_cons_succ, List.getElem?_cons_zero, beq_self_eq_true, true_and, and_true, Bool.true_and, Bool.and_true, Bool.false_and, Bool.and_false, nI_1, not_true_eq_false, not_false_eq_true, vp_narI, D0, x0]
    refine c_D_dropObject hg hK (fun h1 P1 T1 F1 K1 => ?_)
    simp only [e72_0, e72_1, e72_4, e72_7_c43, e72_7_c45, e72_7_c100, e72_7_c112, e72_7_c117, e72_7_c119, e72_64, e72_65, e72_66, e72_69, e72_72, e72_75, e72_76, e72_77, e72_78, e72_81, e72_84, e72_87, e72_88, e72_89, e72_90, e72_93, e72_96, e72_97, e72_100, e72_103, e72_106, e72_107, e72_108, e72_109, e72_112, e72_115, e72_116, e72_119, e72_120, e72_121, e72_122, e72_125, e72_128, e72_129, e72_132, e72_133, e72_134, e72_135, e72_138, e72_141, e72_142, e72_145, e72_148, e72_151, e72_152, e72_154, zgF, zgA, zgR, zisO, zpush, zopt_some, ↓reduceIte, List.getElem?_cons_succ, List.getElem?_cons_zero, beq_self_eq_true, true_and, and_true, Bool.true_and, Bool.and_true, Bool.false_and, Bool.and_false, nI_1, not_true_eq_false, not_false_eq_true, vp_narI]
    exact hQ h1 P1 T1 F1 K1
  rw [if_neg c2] at hQ
  by_cases c3 : c = 119
  · subst c3
    simp only [↓reduceIte] at hQ
    simp only [e72_0, e72_1, e72_4, e72_7_c43, e72_7_c45, e72_7_c100, e72_7_c112, e72_7_c117, e72_7_c119, e72_64, e72_65, e72_66, e72_69, e72_72, e72_75, e72_76, e72_77, e72_78, e72_81, e72_84, e72_87, e72_88, e72_89, e72_90, e72_93, e72_96, e72_97, e72_100, e72_103, e72_106, e72_107, e72_108, e72_109, e72_112, e72_115, e72_116, e72_119, e72_120, e72_121, e72_122, e72_125, e72_128, e72_129, e72_132, e72_133, e72_134, e72_135, e72_138, e72_141, e72_142, e72_145, e72_148, e72_151, e72_152, e72_154, zgF, zgA, zgR, zisO, zpush, zopt_some, ↓reduceIte, List.getElem?_cons_succ, List.getElem?_cons_zero, beq_self_eq_true, true_and, and_true, Bool.true_and, Bool.and_true, Bool.false_and, Bool.and_false, nI_1, not_true_eq_false, not_false_eq_true, vp_narI, D0, x0]
    refine c_D_changeWeight hg hK (fun h1 P1 T1 F1 K1 => ?_)
    simp only [e72_0, e72_1, e72_4, e72_7_c43, e72_7_c45, e72_7_c100, e72_7_c112, e72_7_c117, e72_7_c119, e72_64, e72_65, e72_66, e72_69, e72_72, e72_75, e72_76, e72_77, e72_78, e72_81, e72_84, e72_87, e72_88, e72_89, e72_90, e72_93, e72_96, e72_97, e72_100, e72_103, e72_106, e72_107, e72_108, e72_109, e72_112, e72_115, e72_116, e72_119, e72_120, e72_121, e72_122, e72_125, e72_128, e72_129, e72_132, e72_133, e72_134, e72_135, e72_138, e72_141, e72_142, e72_145, e72_148, e72_151, e72_152, e72_154, zgF, zgA, zgR, zisO, zpush, zopt_some, ↓reduceIte, List.getElem?_cons_succ, List.getElem?_cons_zero, beq_self_eq_true, true_and, and_true, Bool.true_and, Bool.and_true, Bool.false_and, Bool.and_false, nI_1, not_true_eq_false, not_false_eq_true, vp_narI]
    exact hQ h1 P1 T1 F1 K1
  rw [if_neg c3] at hQ
  by_cases c4 : c = 100
  · subst c4
    simp only [↓reduceIte] at hQ
    simp only [e72_0, e72_1, e72_4, e72_7_c43, e72_7_c45, e72_7_c100, e72_7_c112, e72_7_c117, e72_7_c119, e72_64, e72_65, e72_66, e72_69, e72_72, e72_75, e72_76, e72_77, e72_78, e72_81, e72_84, e72_87, e72_88, e72_89, e72_90, e72_93, e72_96, e72_97, e72_100, e72_103, e72_106, e72_107, e72_108, e72_109, e72_112, e72_115, e72_116, e72_119, e72_120, e72_121, e72_122, e72_125, e72_128, e72_129, e72_132, e72_133, e72_134, e72_135, e72_138, e72_141, e72_142, e72_145, e72_148, e72_151, e72_152, e72_154, zgF, zgA, zgR, zisO, zpush, zopt_some, ↓reduceIte, List.getElem?_cons_succ, List.getElem?_cons_zero, beq_self_eq_true, true_and, and_true, Bool.true_and, Bool.and_true, Bool.false_and, Bool.and_false, nI_1, not_true_eq_false, not_false_eq_true, vp_narI, D0, x0]
    refine c_D_changeDown hg (Or.inr rfl) hK (fun h1 P1 T1 F1 K1 => ?_)
    simp only [e72_0, e72_1, e72_4, e72_7_c43, e72_7_c45, e72_7_c100, e72_7_c112, e72_7_c117, e72_7_c119, e72_64, e72_65, e72_66, e72_69, e72_72, e72_75, e72_76, e72_77, e72_78, e72_81, e72_84, e72_87, e72_88, e72_89, e72_90, e72_93, e72_96, e72_97, e72_100, e72_103, e72_106, e72_107, e72_108, e72_109, e72_112, e72_115, e72_116, e72_119, e72_120, e72_121, e72_122, e72_125, e72_128, e72_129, e72_132, e72_133, e72_134, e72_135, e72_138, e72_141, e72_142, e72_145, e72_148, e72_151, e72_152, e72_154, zgF, zgA, zgR, zisO, zpush, zopt_some, ↓reduceIte, List.getElem?_cons_succ, List.getElem?_cons_zero, beq_self_eq_true, true_and, and_true, Bool.true_and, Bool.and_true, Bool.false_and, Bool.and_false, nI_1, not_true_eq_false, not_false_eq_true, vp_narI]
    exact hQ h1 P1 T1 F1 K1
  rw [if_neg c4] at hQ
  by_cases c5 : c = 117
  · subst c5
    simp only [↓reduceIte] at hQ
    simp only [e72_0, e72_1, e72_4, e72_7_c43, e72_7_c45, e72_7_c100, e72_7_c112, e72_7_c117, e72_7_c119, e72_64, e72_65, e72_66, e72_69, e72_72, e72_75, e72_76, e72_77, e72_78, e72_81, e72_84, e72_87, e72_88, e72_89, e72_90, e72_93, e72_96, e72_97, e72_100, e72_103, e72_106, e72_107, e72_108, e72_109, e72_112, e72_115, e72_116, e72_119, e72_120, e72_121, e72_122, e72_125, e72_128, e72_129, e72_132, e72_133, e72_134, e72_135, e72_138, e72_141, e72_142, e72_145, e72_148, e72_151, e72_152, e72_154, zgF, zgA, zgR, zisO, zpush, zopt_some, ↓reduceIte, List.getElem?_cons_succ, List.getElem?_cons_zero, beq_self_eq_true, true_and, and_true, Bool.true_and, Bool.and_true, Bool.false_and, Bool.and_false, nI_1, not_true_eq_false, not_false_eq_true, vp_narI, D0, x0]
    refine c_D_changeDown hg (Or.inl rfl) hK (fun h1 P1 T1 F1 K1 => ?_)
    simp only [e72_0, e72_1, e72_4, e72_7_c43, e72_7_c45, e72_7_c100, e72_7_c112, e72_7_c117, e72_7_c119, e72_64, e72_65, e72_66, e72_69, e72_72, e72_75, e72_76, e72_77, e72_78, e72_81, e72_84, e72_87, e72_88, e72_89, e72_90, e72_93, e72_96, e72_97, e72_100, e72_103, e72_106, e72_107, e72_108, e72_109, e72_112, e72_115, e72_116, e72_119, e72_120, e72_121, e72_122, e72_125, e72_128, e72_129, e72_132, e72_133, e72_134, e72_135, e72_138, e72_141, e72_142, e72_145, e72_148, e72_151, e72_152, e72_154, zgF, zgA, zgR, zisO, zpush, zopt_some, ↓reduceIte, List.getElem?_cons_succ, List.getElem?_cons_zero, beq_self_eq_true, true_and, and_true, Bool.true_and, Bool.and_true, Bool.false_and, Bool.and_false, nI_1, not_true_eq_false, not_false_eq_true, vp_narI]
    exact hQ h1 P1 T1 F1 K1
  rw [if_neg c5] at hQ
  by_cases c6 : c = 112
  · subst c6
    simp only [↓reduceIte] at hQ
    simp only [e72_0, e72_1, e72_4, e72_7_c43, e72_7_c45, e72_7_c100, e72_7_c112, e72_7_c117, e72_7_c119, e72_64, e72_65, e72_66, e72_69, e72_72, e72_75, e72_76, e72_77, e72_78, e72_81, e72_84, e72_87, e72_88, e72_89, e72_90, e72_93, e72_96, e72_97, e72_100, e72_103, e72_106, e72_107, e72_108, e72_109, e72_112, e72_115, e72_116, e72_119, e72_120, e72_121, e72_122, e72_125, e72_128, e72_129, e72_132, e72_133, e72_134, e72_135, e72_138, e72_141, e72_142, e72_145, e72_148, e72_151, e72_152, e72_154, zgF, zgA, zgR, zisO, zpush, zopt_some, ↓reduceIte, List.getElem?_cons_succ, List.getElem?_cons_zero, beq_self_eq_true, true_and, and_true, Bool.true_and, Bool.and_true, Bool.false_and, Bool.and_false, nI_1, not_true_eq_false, not_false_eq_true, vp_narI, D0, x0]
    refine c_D_changePin hg hK (fun h1 P1 T1 F1 K1 => ?_)
    simp only [e72_0, e72_1, e72_4, e72_7_c43, e72_7_c45, e72_7_c100, e72_7_c112, e72_7_c117, e72_7_c119, e72_64, e72_65, e72_66, e72_69, e72_72, e72_75, e72_76, e72_77, e72_78, e72_81, e72_84, e72_87, e72_88, e72_89, e72_90, e72_93, e72_96, e72_97, e72_100, e72_103, e72_106, e72_107, e72_108, e72_109, e72_112, e72_115, e72_116, e72_119, e72_120, e72_121, e72_122, e72_125, e72_128, e72_129, e72_132, e72_133, e72_134, e72_135, e72_138, e72_141, e72_142, e72_145, e72_148, e72_151, e72_152, e72_154, zgF, zgA, zgR, zisO, zpush, zopt_some, ↓reduceIte, List.getElem?_cons_succ, List.getElem?_cons_zero, beq_self_eq_true, true_and, and_true, Bool.true_and, Bool.and_true, Bool.false_and, Bool.and_false, nI_1, not_true_eq_false, not_false_eq_true, vp_narI]
    exact hQ h1 P1 T1 F1 K1
  rw [if_neg c6] at hQ
  have d := fun {l0 : Nat} {X : zX} {Q : Option Value → zX → Prop} => @e72_7_d l0 c X Q c1 c2 c4 c6 c5 c3
  simp only [e72_0, e72_1, e72_4, e72_7_c43, e72_7_c45, e72_7_c100, e72_7_c112, e72_7_c117, e72_7_c119, e72_64, e72_65, e72_66, e72_69, e72_72, e72_75, e72_76, e72_77, e72_78, e72_81, e72_84, e72_87, e72_88, e72_89, e72_90, e72_93, e72_96, e72_97, e72_100, e72_103, e72_106, e72_107, e72_108, e72_109, e72_112, e72_115, e72_116, e72_119, e72_120, e72_121, e72_122, e72_125, e72_128, e72_129, e72_132, e72_133, e72_134, e72_135, e72_138, e72_141, e72_142, e72_145, e72_148, e72_151, e72_152, e72_154, d, zgF, zgA, zgR, zisO, zpush, zopt_some, ↓reduceIte, List.getElem?_cons_succ, List.getElem?_cons_zero, beq_self_eq_true, true_and, and_true, Bool.true_and, Bool.and_true, Bool.false_and, Bool.and_false, nI_1, not_true_eq_false, not_false_eq_true, vp_narI, D0, x0]
  exact hQ h P T zFr.rf hK
theorem zPx.fr {h' : List zC} {p : Nat} {c fi se : Int32} (hP : zPx h l p c fi se f) (hf : ∀ j, 80 ≤ j → j ≤ 81 → h'[j]? = h[j]?) : zPx h' l p c fi se f := ⟨(hf 80 (by decide) (by decide)).trans hP.1, (hf 81 (by decide) (by decide)).trans hP.2⟩
theorem l_D_carryOut (hl : l ≤ 60) (hc : ∀ i, i < l → zfits .char (.int (f i)) = true) (h0 : List zC) (v : Nat × (Nat → Int32)) (hQ : ∀ (h' : List zC) (P' T' p : Nat) (kd fi se : Int32), zFr (fun j => zWr j ∨ j = 80) h0 h' → zKo h' P' T' v.2 → zPx h' l p kd fi se f → Ev 60 75 [.ref 0, .int (nI v.1)] [] (h', z) Q) :
    ∀ (j i p P T : Nat) (kd fi se : Int32) (a : Nat → Int32) (h : List zC), i + j = 60 → p ≤ l → zG a → zFr (fun j => zWr j ∨ j = 80) h0 h → zKo h P T a → zPx h l p kd fi se f → cry f l j i p a = v → Ev 60 36 [.ref 0, .int (nI i)] [] (h, z) Q := by
  intro j
  induction j with
  | zero =>
    intro i p P T kd fi se a h hi hp hg hF hK hP hv
    have e0 : (60 : Int32) ≤ nI i := by rw [show i = 60 by omega]; decide
    rw [cry] at hv
    subst hv
    rw [e60_36]
    simp only [e60_0, e60_1, e60_4, e60_7, e60_9, e60_12, e60_14, e60_15, e60_16, e60_19, e60_20, e60_23, e60_26, e60_27, e60_28, e60_29, e60_32, e60_33, e60_37, e60_39, e60_42, e60_43, e60_46, e60_49, e60_52, e60_53, e60_56, e60_59, e60_62, e60_63, e60_66, e60_68, e60_71, e60_72, e60_76, e60_79, e60_80, e60_83, e60_84, e60_85, e60_88, zgF, zgA, zgR, zisO, zpush, zopt_some, ↓reduceIte, List.getElem?_cons_succ, List.getElem?_cons_zero, beq_self_eq_true, true_and, and_true, Bool.true_and, Bool.and_true, Bool.false_and, Bool.and_false, nI_1, not_true_eq_false, not_false_eq_true, vp_narI, e0]
    exact hQ h P T p kd fi se hF hK hP
  | succ j ih =>
    intro i p P T kd fi se a h hi hp hg hF hK hP hv
    have e0 : ¬ (60 : Int32) ≤ nI i := nI_ge (b := 60) (by omega) (by omega)
    have D0 : h[0]? = some (zob 5 [.ref 1, .ref 10, .ref 75, .ref 76, .ref 77, .ref 80, .ref P, .ref T]) := hK.1.2.1
    have x0 := hP.1
    have rl := rdO_le (f := f) hp
    rw [cry] at hv
    rw [e60_36]
    simp only [e60_0, e60_1, e60_4, e60_7, e60_9, e60_12, e60_14, e60_15, e60_16, e60_19, e60_20, e60_23, e60_26, e60_27, e60_28, e60_29, e60_32, e60_33, e60_37, e60_39, e60_42, e60_43, e60_46, e60_49, e60_52, e60_53, e60_56, e60_59, e60_62, e60_63, e60_66, e60_68, e60_71, e60_72, e60_76, e60_79, e60_80, e60_83, e60_84, e60_85, e60_88, zgF, zgA, zgR, zisO, zpush, zopt_some, ↓reduceIte, List.getElem?_cons_succ, List.getElem?_cons_zero, beq_self_eq_true, true_and, and_true, Bool.true_and, Bool.and_true, Bool.false_and, Bool.and_false, nI_1, not_true_eq_false, not_false_eq_true, vp_narI, e0, D0, x0]
    refine c_P_readOrder hl hp hc hP (fun h1 kd1 fi1 se1 F1 P1 E1 => ?_)
    have K1 := hK.fr (h' := h1) (fun j hj => F1.2 j (by unfold zWr at hj; omega))
    have F1' := hF.tr (F1.mono (T := fun j => zWr j ∨ j = 80) (fun j hj => Or.inr hj))
    by_cases r1 : (rdO f l p).1 = true
    · rw [if_pos r1] at hv
      obtain ⟨g1, g2, g3⟩ := E1 r1
      have eo : ordA a (f p) (rdV f l (p + 1)) (rdO f l p).2.2 = ordA a kd1 fi1 se1 := by
        rw [g1, g2]
        by_cases g4 : f p = 119 ∨ f p = 112
        · rw [g3 g4]
        · rw [not_or] at g4
          unfold ordA
          simp only [if_neg g4.1, if_neg g4.2]
      rw [eo] at hv
      simp only [e60_0, e60_1, e60_4, e60_7, e60_9, e60_12, e60_14, e60_15, e60_16, e60_19, e60_20, e60_23, e60_26, e60_27, e60_28, e60_29, e60_32, e60_33, e60_37, e60_39, e60_42, e60_43, e60_46, e60_49, e60_52, e60_56, e60_59, e60_62, e60_63, e60_66, e60_68, e60_71, e60_72, e60_76, e60_79, e60_80, e60_83, e60_84, e60_85, e60_88, zgF, zgA, zgR, zisO, zpush, zopt_some, ↓reduceIte, List.getElem?_cons_succ, List.getElem?_cons_zero, beq_self_eq_true, true_and, and_true, Bool.true_and, Bool.and_true, Bool.false_and, Bool.and_false, nI_1, not_true_eq_false, not_false_eq_true, vp_narI, r1, zb_t, (show ¬ (1 : Int32) = 0 by decide)]
      have D1 : h1[0]? = some (zob 5 [.ref 1, .ref 10, .ref 75, .ref 76, .ref 77, .ref 80, .ref P, .ref T]) := K1.1.2.1
      rw [e60_53]
      refine ⟨by rw [zisO, D1]; rfl, c_D_carryOrder hg K1 P1 (fun h2 P2 T2 F2 K2 => ?_)⟩
      have P2x := P1.fr (h' := h2) (fun j a b => F2.2 j (by unfold zWr; omega))
      have F2' := F1'.tr (F2.mono (T := fun j => zWr j ∨ j = 80) (fun j hj => Or.inl hj))
      by_cases r2 : (ordA a kd1 fi1 se1).1 < 0
      · rw [if_pos r2] at hv
        subst hv
        simp only [e60_0, e60_1, e60_4, e60_7, e60_9, e60_12, e60_14, e60_15, e60_16, e60_19, e60_20, e60_23, e60_26, e60_27, e60_28, e60_29, e60_32, e60_33, e60_37, e60_39, e60_42, e60_43, e60_46, e60_49, e60_52, e60_53, e60_56, e60_59, e60_62, e60_63, e60_66, e60_68, e60_71, e60_72, e60_76, e60_79, e60_80, e60_83, e60_84, e60_85, e60_88, zgF, zgA, zgR, zisO, zpush, zopt_some, ↓reduceIte, List.getElem?_cons_succ, List.getElem?_cons_zero, beq_self_eq_true, true_and, and_true, Bool.true_and, Bool.and_true, Bool.false_and, Bool.and_false, nI_1, not_true_eq_false, not_false_eq_true, vp_narI, r2]
        exact hQ h2 P2 T2 _ kd1 fi1 se1 F2' K2 P2x
      · rw [if_neg r2] at hv
        have D2 : h2[0]? = some (zob 5 [.ref 1, .ref 10, .ref 75, .ref 76, .ref 77, .ref 80, .ref P2, .ref T2]) := K2.1.2.1
        have y0 := P2x.1
        simp only [e60_0, e60_1, e60_4, e60_7, e60_9, e60_12, e60_14, e60_15, e60_16, e60_19, e60_20, e60_23, e60_26, e60_27, e60_28, e60_29, e60_32, e60_33, e60_37, e60_39, e60_42, e60_43, e60_46, e60_49, e60_52, e60_53, e60_56, e60_59, e60_62, e60_63, e60_66, e60_68, e60_71, e60_72, e60_76, e60_79, e60_80, e60_83, e60_84, e60_85, e60_88, zgF, zgA, zgR, zisO, zpush, zopt_some, ↓reduceIte, List.getElem?_cons_succ, List.getElem?_cons_zero, beq_self_eq_true, true_and, and_true, Bool.true_and, Bool.and_true, Bool.false_and, Bool.and_false, nI_1, not_true_eq_false, not_false_eq_true, vp_narI, r2, D2, y0]
        refine c_P_skip hl rl.2.1 P2x (fun h3 F3 P3 => ?_)
        simp only [e60_0, e60_1, e60_4, e60_7, e60_9, e60_12, e60_14, e60_15, e60_16, e60_19, e60_20, e60_23, e60_26, e60_27, e60_28, e60_29, e60_32, e60_33, e60_37, e60_39, e60_42, e60_43, e60_46, e60_49, e60_52, e60_53, e60_56, e60_59, e60_62, e60_63, e60_66, e60_68, e60_71, e60_72, e60_76, e60_79, e60_80, e60_83, e60_84, e60_85, e60_88, zgF, zgA, zgR, zisO, zpush, zopt_some, ↓reduceIte, List.getElem?_cons_succ, List.getElem?_cons_zero, beq_self_eq_true, true_and, and_true, Bool.true_and, Bool.and_true, Bool.false_and, Bool.and_false, nI_1, not_true_eq_false, not_false_eq_true, vp_narI]
        refine ih (i + 1) _ P2 T2 kd1 fi1 se1 _ h3 (by omega) ?_ (zG_ordA hg) (F2'.tr (F3.mono (T := fun j => zWr j ∨ j = 80) (fun j hj => Or.inr hj))) (K2.fr (fun j hj => F3.2 j (by unfold zWr at hj; omega))) P3 hv
        unfold skA
        split
        next hs => have := (skB_lt hs).1; omega
        next => exact rl.2.1
    · rw [if_neg r1] at hv
      rw [Bool.not_eq_true] at r1
      subst hv
      simp only [e60_0, e60_1, e60_4, e60_7, e60_9, e60_12, e60_14, e60_15, e60_16, e60_19, e60_20, e60_23, e60_26, e60_27, e60_28, e60_29, e60_32, e60_33, e60_37, e60_39, e60_42, e60_43, e60_46, e60_49, e60_52, e60_53, e60_56, e60_59, e60_62, e60_63, e60_66, e60_68, e60_71, e60_72, e60_76, e60_79, e60_80, e60_83, e60_84, e60_85, e60_88, zgF, zgA, zgR, zisO, zpush, zopt_some, ↓reduceIte, List.getElem?_cons_succ, List.getElem?_cons_zero, beq_self_eq_true, true_and, and_true, Bool.true_and, Bool.and_true, Bool.false_and, Bool.and_false, nI_1, not_true_eq_false, not_false_eq_true, vp_narI, r1, zb_f]
      exact hQ h1 P T _ kd1 fi1 se1 F1' K1 P1
/-- what carryOut answers, and the row after it -/
def cryA (f : Nat → Int32) (l : Nat) (a : Nat → Int32) : Int32 × (Nat → Int32) := if flt f l 60 0 = -6 then (nI (cry f l 60 0 0 a).1, (cry f l 60 0 0 a).2) else (-3, a)
def cryL (f : Nat → Int32) (l : Nat) : Nat := if flt f l 60 0 = -6 then 0 else l
theorem c_D_carryOut (hg : zG a) (hK : zCl h a n H sv S l f) (hQ : ∀ h' : List zC, zFr (fun j => j < 108) h h' → zCl h' (cryA f l a).2 (recN (cryA f l a).1 n) (recH (cryA f l a).1 n H a) sv S (cryL f l) f → Q (some (.int (cryA f l a).1)) (h', z)) : Ev 60 0 [.ref 0, zU] [] (h, z) Q := by
  obtain ⟨⟨P, T, hK'⟩, hH, hL, hP⟩ := id hK
  have D0 : h[0]? = some (zob 5 [.ref 1, .ref 10, .ref 75, .ref 76, .ref 77, .ref 80, .ref P, .ref T]) := hK'.1.2.1
  obtain ⟨⟨p, kd, fi, se, hX⟩, hl, hc⟩ := hP.x
  have x0 := hX.1
  unfold cryA cryL at hQ
  simp only [e60_0, e60_1, e60_4, e60_7, e60_9, e60_12, e60_14, e60_15, e60_16, e60_19, e60_20, e60_23, e60_26, e60_27, e60_28, e60_29, e60_32, e60_33, e60_37, e60_39, e60_42, e60_43, e60_46, e60_49, e60_52, e60_53, e60_56, e60_59, e60_62, e60_63, e60_66, e60_68, e60_71, e60_72, e60_75, e60_76, e60_79, e60_80, e60_83, e60_84, e60_85, e60_88, zgF, zgA, zgR, zisO, zpush, zopt_some, ↓reduceIte, List.getElem?_cons_succ, List.getElem?_cons_zero, beq_self_eq_true, true_and, and_true, Bool.true_and, Bool.and_true, Bool.false_and, Bool.and_false, nI_1, not_true_eq_false, not_false_eq_true, vp_narI, D0, x0]
  refine c_P_firstFault hl hc hX (fun h1 p1 kd1 fi1 se1 F1 X1 _ => ?_)
  have C1 := hK.pad F1 (X1.pd hP)
  by_cases hf : flt f l 60 0 = -6
  · simp only [hf, ↓reduceIte] at hQ
    obtain ⟨⟨P', T', K1⟩, H1, L1, P1⟩ := C1
    have D1 : h1[0]? = some (zob 5 [.ref 1, .ref 10, .ref 75, .ref 76, .ref 77, .ref 80, .ref P', .ref T']) := K1.1.2.1
    obtain ⟨o, ⟨y0, -⟩, -⟩ := id H1
    simp only [e60_0, e60_1, e60_4, e60_7, e60_9, e60_12, e60_14, e60_15, e60_16, e60_19, e60_20, e60_23, e60_26, e60_27, e60_28, e60_29, e60_32, e60_33, e60_37, e60_39, e60_42, e60_43, e60_46, e60_49, e60_52, e60_53, e60_56, e60_59, e60_62, e60_63, e60_66, e60_68, e60_71, e60_72, e60_75, e60_76, e60_79, e60_80, e60_83, e60_84, e60_85, e60_88, zgF, zgA, zgR, zisO, zpush, zopt_some, ↓reduceIte, List.getElem?_cons_succ, List.getElem?_cons_zero, beq_self_eq_true, true_and, and_true, Bool.true_and, Bool.and_true, Bool.false_and, Bool.and_false, nI_1, not_true_eq_false, not_false_eq_true, vp_narI, hf, D1, y0]
    refine c_H_draft hg K1.1.2.2.1 H1 (fun h2 F2 H2 => ?_)
    have K2 := K1.fr (h' := h2) (fun j hj => F2.2 j (by unfold zWr at hj; omega))
    have L2 := L1.fr (h' := h2) (fun j hj => F2.2 j (by omega))
    have X2 := X1.fr (h' := h2) (fun j a b => F2.2 j (by omega))
    have D2 : h2[0]? = some (zob 5 [.ref 1, .ref 10, .ref 75, .ref 76, .ref 77, .ref 80, .ref P', .ref T']) := K2.1.2.1
    have w0 := X2.1
    simp only [e60_0, e60_1, e60_4, e60_7, e60_9, e60_12, e60_14, e60_15, e60_16, e60_19, e60_20, e60_23, e60_26, e60_27, e60_28, e60_29, e60_32, e60_33, e60_37, e60_39, e60_42, e60_43, e60_46, e60_49, e60_52, e60_53, e60_56, e60_59, e60_62, e60_63, e60_66, e60_68, e60_71, e60_72, e60_75, e60_76, e60_79, e60_80, e60_83, e60_84, e60_85, e60_88, zgF, zgA, zgR, zisO, zpush, zopt_some, ↓reduceIte, List.getElem?_cons_succ, List.getElem?_cons_zero, beq_self_eq_true, true_and, and_true, Bool.true_and, Bool.and_true, Bool.false_and, Bool.and_false, nI_1, not_true_eq_false, not_false_eq_true, vp_narI, D2, w0, zpF, List.length_cons, List.length_nil, Nat.reduceAdd, Nat.reduceLT, and_self, List.set_cons_succ, List.set_cons_zero]
    have F3 : zFr (fun j => j = 80) h2 (h2.set 80 (zob 2 [.ref 81, .int (nI l), .int 0, .int kd1, .int fi1, .int se1])) := zFr.set rfl
    have X3 : zPx (h2.set 80 (zob 2 [.ref 81, .int (nI l), .int 0, .int kd1, .int fi1, .int se1])) l 0 kd1 fi1 se1 f := X2.at 0
    generalize h2.set 80 (zob 2 [.ref 81, .int (nI l), .int 0, .int kd1, .int fi1, .int se1]) = h3 at F3 X3 ⊢
    have K3 := K2.fr (h' := h3) (fun j hj => F3.2 j (by unfold zWr at hj; omega))
    refine l_D_carryOut hl hc h3 (cry f l 60 0 0 a) (fun h4 P4 T4 p4 kd4 fi4 se4 F4 K4 X4 => ?_) 60 0 0 P' T' kd1 fi1 se1 a h3 (by omega) (by omega) hg zFr.rf K3 X3 rfl
    have H4 := (H2.fr (h' := h3) (fun j a b => F3.2 j (by omega))).fr (h' := h4) (fun j a b => F4.2 j (by unfold zWr; omega))
    have L4 := (L2.fr (h' := h3) (fun j hj => F3.2 j (by omega))).fr (h' := h4) (fun j hj => F4.2 j (by unfold zWr; omega))
    have D4 : h4[0]? = some (zob 5 [.ref 1, .ref 10, .ref 75, .ref 76, .ref 77, .ref 80, .ref P4, .ref T4]) := K4.1.2.1
    obtain ⟨w4, w4'⟩ := X4
    have F5 : zFr (fun j => j = 80) h4 (h4.set 80 (zob 2 [.ref 81, .int 0, .int (nI p4), .int kd4, .int fi4, .int se4])) := zFr.set rfl
    have X5 : zPx (h4.set 80 (zob 2 [.ref 81, .int 0, .int (nI p4), .int kd4, .int fi4, .int se4])) 0 p4 kd4 fi4 se4 f := ⟨zset_self w4, zset_ne w4' (by decide)⟩
    rw [e60_75]
    simp only [e60_0, e60_1, e60_4, e60_7, e60_9, e60_12, e60_14, e60_15, e60_16, e60_19, e60_20, e60_23, e60_26, e60_27, e60_28, e60_29, e60_32, e60_33, e60_37, e60_39, e60_42, e60_43, e60_46, e60_49, e60_52, e60_53, e60_56, e60_59, e60_62, e60_63, e60_66, e60_68, e60_71, e60_72, e60_76, e60_79, e60_80, e60_83, e60_84, e60_85, e60_88, zgF, zgA, zgR, zisO, zpush, zopt_some, ↓reduceIte, List.getElem?_cons_succ, List.getElem?_cons_zero, beq_self_eq_true, true_and, and_true, Bool.true_and, Bool.and_true, Bool.false_and, Bool.and_false, nI_1, not_true_eq_false, not_false_eq_true, vp_narI, D4, w4, zpF, List.length_cons, List.length_nil, Nat.reduceAdd, Nat.reduceLT, and_self, List.set_cons_succ, List.set_cons_zero]
    generalize h4.set 80 (zob 2 [.ref 81, .int 0, .int (nI p4), .int kd4, .int fi4, .int se4]) = h5 at F5 X5 ⊢
    have K5 := K4.fr (h' := h5) (fun j hj => F5.2 j (by unfold zWr at hj; omega))
    have H5 := H4.fr (h' := h5) (fun j a b => F5.2 j (by omega))
    have L5 := L4.fr (h' := h5) (fun j hj => F5.2 j (by omega))
    have D5 : h5[0]? = some (zob 5 [.ref 1, .ref 10, .ref 75, .ref 76, .ref 77, .ref 80, .ref P4, .ref T4]) := K5.1.2.1
    simp only [e60_0, e60_1, e60_4, e60_7, e60_9, e60_12, e60_14, e60_15, e60_16, e60_19, e60_20, e60_23, e60_26, e60_27, e60_28, e60_29, e60_32, e60_33, e60_37, e60_39, e60_42, e60_43, e60_46, e60_49, e60_52, e60_53, e60_56, e60_59, e60_62, e60_63, e60_66, e60_68, e60_71, e60_72, e60_76, e60_79, e60_80, e60_83, e60_84, e60_85, e60_88, zgF, zgA, zgR, zisO, zpush, zopt_some, ↓reduceIte, List.getElem?_cons_succ, List.getElem?_cons_zero, beq_self_eq_true, true_and, and_true, Bool.true_and, Bool.and_true, Bool.false_and, Bool.and_false, nI_1, not_true_eq_false, not_false_eq_true, vp_narI, D5]
    refine c_D_recorded hg K5.1.2.1 H5 (fun h6 F6 H6 => ?_)
    simp only [e60_0, e60_1, e60_4, e60_7, e60_9, e60_12, e60_14, e60_15, e60_16, e60_19, e60_20, e60_23, e60_26, e60_27, e60_28, e60_29, e60_32, e60_33, e60_37, e60_39, e60_42, e60_43, e60_46, e60_49, e60_52, e60_53, e60_56, e60_59, e60_62, e60_63, e60_66, e60_68, e60_71, e60_72, e60_76, e60_79, e60_80, e60_83, e60_84, e60_85, e60_88, zgF, zgA, zgR, zisO, zpush, zopt_some, ↓reduceIte, List.getElem?_cons_succ, List.getElem?_cons_zero, beq_self_eq_true, true_and, and_true, Bool.true_and, Bool.and_true, Bool.false_and, Bool.and_false, nI_1, not_true_eq_false, not_false_eq_true, vp_narI]
    refine hQ h6 ?_ ⟨⟨P4, T4, K5.fr (fun j hj => F6.2 j (by unfold zWr at hj; omega))⟩, H6, L5.fr (fun j hj => F6.2 j (by omega)), ⟨p4, kd4, fi4, se4, (F6.2 80 (by omega)).trans X5.1⟩, (F6.2 81 (by omega)).trans X5.2, by omega, fun i hi => absurd hi (by omega)⟩
    exact (((((F1.mono (fun j hj => by omega)).tr (F2.mono (fun j hj => by omega))).tr (F3.mono (fun j hj => by omega))).tr (F4.mono (fun j hj => by unfold zWr at hj; omega))).tr (F5.mono (fun j hj => by omega))).tr (F6.mono (fun j hj => by omega))
  · simp only [hf, ↓reduceIte, recN, recH, (show (-3 : Int32) < 0 by decide)] at hQ
    simp only [e60_0, e60_1, e60_4, e60_7, e60_9, e60_12, e60_14, e60_15, e60_16, e60_19, e60_20, e60_23, e60_26, e60_27, e60_28, e60_29, e60_32, e60_33, e60_37, e60_39, e60_42, e60_43, e60_46, e60_49, e60_52, e60_53, e60_56, e60_59, e60_62, e60_63, e60_66, e60_68, e60_71, e60_72, e60_75, e60_76, e60_79, e60_80, e60_83, e60_84, e60_85, e60_88, zgF, zgA, zgR, zisO, zpush, zopt_some, ↓reduceIte, List.getElem?_cons_succ, List.getElem?_cons_zero, beq_self_eq_true, true_and, and_true, Bool.true_and, Bool.and_true, Bool.false_and, Bool.and_false, nI_1, not_true_eq_false, not_false_eq_true, vp_narI, hf]
    exact hQ h1 (F1.mono (fun j hj => by omega)) C1
end ZC
end
