/-! the exact form of a State object; its copying, inserting and removing -/
section
set_option maxRecDepth 100000
def zSx (h : List zC) (k : Nat) (v0 v1 v2 v3 v4 : Int32) (f1 f2 f3 f4 f5 f6 f7 f8 : Nat → Int32) : Prop := h[k]? = some (zob 3 [.int v0, .int v1, .int v2, .ref (k + 1), .ref (k + 2), .ref (k + 3), .int v3, .ref (k + 4), .ref (k + 5), .int v4, .ref (k + 6), .ref (k + 7), .ref (k + 8)]) ∧ h[k + 1]? = some (zar .int 12 f1) ∧ h[k + 2]? = some (zar .int 12 f2) ∧ h[k + 3]? = some (zar .boolean 12 f3) ∧ h[k + 4]? = some (zar .int 40 f4) ∧ h[k + 5]? = some (zar .int 40 f5) ∧ h[k + 6]? = some (zar .int 120 f6) ∧ h[k + 7]? = some (zar .int 120 f7) ∧ h[k + 8]? = some (zar .int 120 f8)
def zSa (a : Nat → Int32) (f1 f2 f3 f4 f5 f6 f7 f8 : Nat → Int32) : Prop := (∀ i, i < gN a 2 → f1 i = a (5 + i)) ∧ (∀ i, i < gN a 2 → f2 i = a (17 + i)) ∧ (∀ i, i < gN a 2 → f3 i = a (29 + i)) ∧ (∀ i, i < gN a 3 → f4 i = a (41 + i)) ∧ (∀ i, i < gN a 3 → f5 i = a (81 + i)) ∧ (∀ i, i < gN a 4 → f6 i = a (121 + 3 * i)) ∧ (∀ i, i < gN a 4 → f7 i = a (122 + 3 * i)) ∧ (∀ i, i < gN a 4 → f8 i = a (123 + 3 * i))
section ZC
variable {h : List zC} {z : Nat × (Nat × (Nat → Int32))} {k : Nat} {a : Nat → Int32} {Q : Option Value → zX → Prop} {v0 v1 v2 v3 v4 : Int32} {f1 f2 f3 f4 f5 f6 f7 f8 : Nat → Int32}
theorem zSt.x (hS : zSt h k a) : ∃ f1 f2 f3 f4 f5 f6 f7 f8, zSx h k (a 0) (a 1) (a 2) (a 3) (a 4) f1 f2 f3 f4 f5 f6 f7 f8 ∧ zSa a f1 f2 f3 f4 f5 f6 f7 f8 := by
  obtain ⟨h0, ⟨f1, g1, e1⟩, ⟨f2, g2, e2⟩, ⟨f3, g3, e3⟩, ⟨f4, g4, e4⟩, ⟨f5, g5, e5⟩, ⟨f6, g6, e6⟩, ⟨f7, g7, e7⟩, ⟨f8, g8, e8⟩⟩ := hS
  exact ⟨f1, f2, f3, f4, f5, f6, f7, f8, ⟨h0, g1, g2, g3, g4, g5, g6, g7, g8⟩, ⟨e1, e2, e3, e4, e5, e6, e7, e8⟩⟩
theorem zSx.st (hX : zSx h k (a 0) (a 1) (a 2) (a 3) (a 4) f1 f2 f3 f4 f5 f6 f7 f8) (hA : zSa a f1 f2 f3 f4 f5 f6 f7 f8) : zSt h k a := by
  obtain ⟨h0, g1, g2, g3, g4, g5, g6, g7, g8⟩ := hX
  obtain ⟨e1, e2, e3, e4, e5, e6, e7, e8⟩ := hA
  exact ⟨h0, ⟨f1, g1, e1⟩, ⟨f2, g2, e2⟩, ⟨f3, g3, e3⟩, ⟨f4, g4, e4⟩, ⟨f5, g5, e5⟩, ⟨f6, g6, e6⟩, ⟨f7, g7, e7⟩, ⟨f8, g8, e8⟩⟩
theorem zSx.obj (hX : zSx h k v0 v1 v2 v3 v4 f1 f2 f3 f4 f5 f6 f7 f8) (w0 w1 w2 w3 w4 : Int32) : zSx (h.set k (zob 3 [.int w0, .int w1, .int w2, .ref (k + 1), .ref (k + 2), .ref (k + 3), .int w3, .ref (k + 4), .ref (k + 5), .int w4, .ref (k + 6), .ref (k + 7), .ref (k + 8)])) k w0 w1 w2 w3 w4 f1 f2 f3 f4 f5 f6 f7 f8 := by
  obtain ⟨h0, g1, g2, g3, g4, g5, g6, g7, g8⟩ := hX
  exact ⟨zset_self h0, zset_ne g1 (by omega), zset_ne g2 (by omega), zset_ne g3 (by omega), zset_ne g4 (by omega), zset_ne g5 (by omega), zset_ne g6 (by omega), zset_ne g7 (by omega), zset_ne g8 (by omega)⟩
theorem zSx.a1 (hX : zSx h k v0 v1 v2 v3 v4 f1 f2 f3 f4 f5 f6 f7 f8) (g : Nat → Int32) : zSx (h.set (k + 1) (zar .int 12 g)) k v0 v1 v2 v3 v4 g f2 f3 f4 f5 f6 f7 f8 := by
  obtain ⟨h0, g1, g2, g3, g4, g5, g6, g7, g8⟩ := hX
  exact ⟨zset_ne h0 (by omega), zset_self g1, zset_ne g2 (by omega), zset_ne g3 (by omega), zset_ne g4 (by omega), zset_ne g5 (by omega), zset_ne g6 (by omega), zset_ne g7 (by omega), zset_ne g8 (by omega)⟩
theorem zSx.a2 (hX : zSx h k v0 v1 v2 v3 v4 f1 f2 f3 f4 f5 f6 f7 f8) (g : Nat → Int32) : zSx (h.set (k + 2) (zar .int 12 g)) k v0 v1 v2 v3 v4 f1 g f3 f4 f5 f6 f7 f8 := by
  obtain ⟨h0, g1, g2, g3, g4, g5, g6, g7, g8⟩ := hX
  exact ⟨zset_ne h0 (by omega), zset_ne g1 (by omega), zset_self g2, zset_ne g3 (by omega), zset_ne g4 (by omega), zset_ne g5 (by omega), zset_ne g6 (by omega), zset_ne g7 (by omega), zset_ne g8 (by omega)⟩
theorem zSx.a3 (hX : zSx h k v0 v1 v2 v3 v4 f1 f2 f3 f4 f5 f6 f7 f8) (g : Nat → Int32) : zSx (h.set (k + 3) (zar .boolean 12 g)) k v0 v1 v2 v3 v4 f1 f2 g f4 f5 f6 f7 f8 := by
  obtain ⟨h0, g1, g2, g3, g4, g5, g6, g7, g8⟩ := hX
  exact ⟨zset_ne h0 (by omega), zset_ne g1 (by omega), zset_ne g2 (by omega), zset_self g3, zset_ne g4 (by omega), zset_ne g5 (by omega), zset_ne g6 (by omega), zset_ne g7 (by omega), zset_ne g8 (by omega)⟩
theorem zSx.a4 (hX : zSx h k v0 v1 v2 v3 v4 f1 f2 f3 f4 f5 f6 f7 f8) (g : Nat → Int32) : zSx (h.set (k + 4) (zar .int 40 g)) k v0 v1 v2 v3 v4 f1 f2 f3 g f5 f6 f7 f8 := by
  obtain ⟨h0, g1, g2, g3, g4, g5, g6, g7, g8⟩ := hX
  exact ⟨zset_ne h0 (by omega), zset_ne g1 (by omega), zset_ne g2 (by omega), zset_ne g3 (by omega), zset_self g4, zset_ne g5 (by omega), zset_ne g6 (by omega), zset_ne g7 (by omega), zset_ne g8 (by omega)⟩
theorem zSx.a5 (hX : zSx h k v0 v1 v2 v3 v4 f1 f2 f3 f4 f5 f6 f7 f8) (g : Nat → Int32) : zSx (h.set (k + 5) (zar .int 40 g)) k v0 v1 v2 v3 v4 f1 f2 f3 f4 g f6 f7 f8 := by
  obtain ⟨h0, g1, g2, g3, g4, g5, g6, g7, g8⟩ := hX
  exact ⟨zset_ne h0 (by omega), zset_ne g1 (by omega), zset_ne g2 (by omega), zset_ne g3 (by omega), zset_ne g4 (by omega), zset_self g5, zset_ne g6 (by omega), zset_ne g7 (by omega), zset_ne g8 (by omega)⟩
theorem zSx.a6 (hX : zSx h k v0 v1 v2 v3 v4 f1 f2 f3 f4 f5 f6 f7 f8) (g : Nat → Int32) : zSx (h.set (k + 6) (zar .int 120 g)) k v0 v1 v2 v3 v4 f1 f2 f3 f4 f5 g f7 f8 := by
  obtain ⟨h0, g1, g2, g3, g4, g5, g6, g7, g8⟩ := hX
  exact ⟨zset_ne h0 (by omega), zset_ne g1 (by omega), zset_ne g2 (by omega), zset_ne g3 (by omega), zset_ne g4 (by omega), zset_ne g5 (by omega), zset_self g6, zset_ne g7 (by omega), zset_ne g8 (by omega)⟩
theorem zSx.a7 (hX : zSx h k v0 v1 v2 v3 v4 f1 f2 f3 f4 f5 f6 f7 f8) (g : Nat → Int32) : zSx (h.set (k + 7) (zar .int 120 g)) k v0 v1 v2 v3 v4 f1 f2 f3 f4 f5 f6 g f8 := by
  obtain ⟨h0, g1, g2, g3, g4, g5, g6, g7, g8⟩ := hX
  exact ⟨zset_ne h0 (by omega), zset_ne g1 (by omega), zset_ne g2 (by omega), zset_ne g3 (by omega), zset_ne g4 (by omega), zset_ne g5 (by omega), zset_ne g6 (by omega), zset_self g7, zset_ne g8 (by omega)⟩
theorem zSx.a8 (hX : zSx h k v0 v1 v2 v3 v4 f1 f2 f3 f4 f5 f6 f7 f8) (g : Nat → Int32) : zSx (h.set (k + 8) (zar .int 120 g)) k v0 v1 v2 v3 v4 f1 f2 f3 f4 f5 f6 f7 g := by
  obtain ⟨h0, g1, g2, g3, g4, g5, g6, g7, g8⟩ := hX
  exact ⟨zset_ne h0 (by omega), zset_ne g1 (by omega), zset_ne g2 (by omega), zset_ne g3 (by omega), zset_ne g4 (by omega), zset_ne g5 (by omega), zset_ne g6 (by omega), zset_ne g7 (by omega), zset_self g8⟩
theorem zSx.ne (hX : zSx h k v0 v1 v2 v3 v4 f1 f2 f3 f4 f5 f6 f7 f8) {j : Nat} {c : zC} (hj : j < k ∨ k + 8 < j) : zSx (h.set j c) k v0 v1 v2 v3 v4 f1 f2 f3 f4 f5 f6 f7 f8 := by
  obtain ⟨h0, g1, g2, g3, g4, g5, g6, g7, g8⟩ := hX
  exact ⟨zset_ne h0 (by omega), zset_ne g1 (by omega), zset_ne g2 (by omega), zset_ne g3 (by omega), zset_ne g4 (by omega), zset_ne g5 (by omega), zset_ne g6 (by omega), zset_ne g7 (by omega), zset_ne g8 (by omega)⟩
theorem cpy_lo {f g : Nat → Int32} {n i : Nat} (h : i < n) : va_cpy f g (0 : Int32).toNatClampNeg (0 : Int32).toNatClampNeg n i = f i := by
  have e : (0 : Int32).toNatClampNeg = 0 := rfl
  unfold va_cpy
  rw [e, if_pos ⟨by omega, by omega⟩]
  congr 1
  omega
theorem c_S_copyFrom {k2 : Nat} {w0 w1 w2 w3 w4 : Int32} {d1 d2 d3 d4 d5 d6 d7 d8 : Nat → Int32} (hg : zG a) (hk : k + 8 < k2 ∨ k2 + 8 < k) (hS : zSt h k2 a) (hX : zSx h k w0 w1 w2 w3 w4 d1 d2 d3 d4 d5 d6 d7 d8)
    (hQ : ∀ h' : List zC, zFr (fun j => k ≤ j ∧ j ≤ k + 8) h h' → zSt h' k a → Q none (h', z)) : Ev 13 0 [.ref k, .ref k2] [] (h, z) Q := by
  obtain ⟨f1, f2, f3, f4, f5, f6, f7, f8, hY, hA⟩ := hS.x
  obtain ⟨e2, b2⟩ := hg.2.2.1
  obtain ⟨e3, b3⟩ := hg.2.2.2.1
  obtain ⟨e4, b4⟩ := hg.2.2.2.2.1
  have p2 : ¬ a 2 < 0 := by rw [e2]; exact nI_pos (by omega)
  have p3 : ¬ a 3 < 0 := by rw [e3]; exact nI_pos (by omega)
  have p4 : ¬ a 4 < 0 := by rw [e4]; exact nI_pos (by omega)
  have z0 : ¬ (0 : Int32) < 0 := by decide
  have y0 : (0 : Int32).toNatClampNeg = 0 := rfl
  have F0 : zFr (fun j => k ≤ j ∧ j ≤ k + 8) h h := zFr.rf
  have hQ : ∀ h' : List zC, zFr (fun j => k ≤ j ∧ j ≤ k + 8) h h' → zSt h' k a → Q none (h', z) := hQ
  have key : ∀ hb : List zC, zFr (fun j => k ≤ j ∧ j ≤ k + 8) hb h → (∀ h' : List zC, zFr (fun j => k ≤ j ∧ j ≤ k + 8) hb h' → zSt h' k a → Q none (h', z)) → Ev 13 0 [.ref k, .ref k2] [] (h, z) Q := by
    intro hb F0 hQ
    simp only [e13_0, e13_1, e13_2, e13_5, e13_8, e13_9, e13_10, e13_13, e13_16, e13_17, e13_18, e13_21, e13_24, e13_25, e13_28, e13_29, e13_30, e13_33, e13_34, e13_35, e13_41, e13_42, e13_45, e13_46, e13_47, e13_50, e13_51, e13_52, e13_58, e13_59, e13_62, e13_63, e13_64, e13_67, e13_68, e13_69, e13_75, e13_76, e13_77, e13_80, e13_83, e13_84, e13_87, e13_88, e13_89, e13_92, e13_93, e13_94, e13_100, e13_101, e13_104, e13_105, e13_106, e13_109, e13_110, e13_111, e13_117, e13_118, e13_119, e13_122, e13_125, e13_126, e13_129, e13_130, e13_131, e13_134, e13_135, e13_136, e13_142, e13_143, e13_146, e13_147, e13_148, e13_151, e13_152, e13_153, e13_159, e13_160, e13_163, e13_164, e13_165, e13_168, e13_169, e13_170, e13_176, zgF, zgA, zgR, zisO, zpush, zopt_some, ↓reduceIte, List.getElem?_cons_succ, List.getElem?_cons_zero, beq_self_eq_true, true_and, and_true, Bool.true_and, Bool.and_true, Bool.false_and, Bool.and_false, nI_1, not_true_eq_false, not_false_eq_true, vp_narI, zpF, List.length_cons, List.length_nil, Nat.reduceAdd, Nat.reduceLT, and_self, List.set_cons_succ, List.set_cons_zero, hX.1, hY.1]
    have F1 := F0.tr (zFr.set (S := fun j => k ≤ j ∧ j ≤ k + 8) (h := h) (k := k) (c := zob 3 [.int (a 0), .int w1, .int w2, .ref (k + 1), .ref (k + 2), .ref (k + 3), .int w3, .ref (k + 4), .ref (k + 5), .int w4, .ref (k + 6), .ref (k + 7), .ref (k + 8)]) ⟨by omega, by omega⟩)
    have X1 := hX.obj (a 0) w1 w2 w3 w4
    have Y1 := hY.ne (j := k) (c := zob 3 [.int (a 0), .int w1, .int w2, .ref (k + 1), .ref (k + 2), .ref (k + 3), .int w3, .ref (k + 4), .ref (k + 5), .int w4, .ref (k + 6), .ref (k + 7), .ref (k + 8)]) (by omega)
    generalize h.set k (zob 3 [.int (a 0), .int w1, .int w2, .ref (k + 1), .ref (k + 2), .ref (k + 3), .int w3, .ref (k + 4), .ref (k + 5), .int w4, .ref (k + 6), .ref (k + 7), .ref (k + 8)]) = g1 at F1 X1 Y1 ⊢
    clear F0 hX hY
    have F0 := F1
    have hX := X1
    have hY := Y1
    clear F1 X1 Y1
    simp only [e13_0, e13_1, e13_2, e13_5, e13_8, e13_9, e13_10, e13_13, e13_16, e13_17, e13_18, e13_21, e13_24, e13_25, e13_28, e13_29, e13_30, e13_33, e13_34, e13_35, e13_41, e13_42, e13_45, e13_46, e13_47, e13_50, e13_51, e13_52, e13_58, e13_59, e13_62, e13_63, e13_64, e13_67, e13_68, e13_69, e13_75, e13_76, e13_77, e13_80, e13_83, e13_84, e13_87, e13_88, e13_89, e13_92, e13_93, e13_94, e13_100, e13_101, e13_104, e13_105, e13_106, e13_109, e13_110, e13_111, e13_117, e13_118, e13_119, e13_122, e13_125, e13_126, e13_129, e13_130, e13_131, e13_134, e13_135, e13_136, e13_142, e13_143, e13_146, e13_147, e13_148, e13_151, e13_152, e13_153, e13_159, e13_160, e13_163, e13_164, e13_165, e13_168, e13_169, e13_170, e13_176, zgF, zgA, zgR, zisO, zpush, zopt_some, ↓reduceIte, List.getElem?_cons_succ, List.getElem?_cons_zero, beq_self_eq_true, true_and, and_true, Bool.true_and, Bool.and_true, Bool.false_and, Bool.and_false, nI_1, not_true_eq_false, not_false_eq_true, vp_narI, zpF, List.length_cons, List.length_nil, Nat.reduceAdd, Nat.reduceLT, and_self, List.set_cons_succ, List.set_cons_zero, hX.1, hY.1]
    have F1 := F0.tr (zFr.set (S := fun j => k ≤ j ∧ j ≤ k + 8) (h := g1) (k := k) (c := zob 3 [.int (a 0), .int (a 1), .int w2, .ref (k + 1), .ref (k + 2), .ref (k + 3), .int w3, .ref (k + 4), .ref (k + 5), .int w4, .ref (k + 6), .ref (k + 7), .ref (k + 8)]) ⟨by omega, by omega⟩)
    have X1 := hX.obj (a 0) (a 1) w2 w3 w4
    have Y1 := hY.ne (j := k) (c := zob 3 [.int (a 0), .int (a 1), .int w2, .ref (k + 1), .ref (k + 2), .ref (k + 3), .int w3, .ref (k + 4), .ref (k + 5), .int w4, .ref (k + 6), .ref (k + 7), .ref (k + 8)]) (by omega)
    generalize g1.set k (zob 3 [.int (a 0), .int (a 1), .int w2, .ref (k + 1), .ref (k + 2), .ref (k + 3), .int w3, .ref (k + 4), .ref (k + 5), .int w4, .ref (k + 6), .ref (k + 7), .ref (k + 8)]) = g2 at F1 X1 Y1 ⊢
    clear F0 hX hY
    have F0 := F1
    have hX := X1
    have hY := Y1
    clear F1 X1 Y1
    simp only [e13_0, e13_1, e13_2, e13_5, e13_8, e13_9, e13_10, e13_13, e13_16, e13_17, e13_18, e13_21, e13_24, e13_25, e13_28, e13_29, e13_30, e13_33, e13_34, e13_35, e13_41, e13_42, e13_45, e13_46, e13_47, e13_50, e13_51, e13_52, e13_58, e13_59, e13_62, e13_63, e13_64, e13_67, e13_68, e13_69, e13_75, e13_76, e13_77, e13_80, e13_83, e13_84, e13_87, e13_88, e13_89, e13_92, e13_93, e13_94, e13_100, e13_101, e13_104, e13_105, e13_106, e13_109, e13_110, e13_111, e13_117, e13_118, e13_119, e13_122, e13_125, e13_126, e13_129, e13_130, e13_131, e13_134, e13_135, e13_136, e13_142, e13_143, e13_146, e13_147, e13_148, e13_151, e13_152, e13_153, e13_159, e13_160, e13_163, e13_164, e13_165, e13_168, e13_169, e13_170, e13_176, zgF, zgA, zgR, zisO, zpush, zopt_some, ↓reduceIte, List.getElem?_cons_succ, List.getElem?_cons_zero, beq_self_eq_true, true_and, and_true, Bool.true_and, Bool.and_true, Bool.false_and, Bool.and_false, nI_1, not_true_eq_false, not_false_eq_true, vp_narI, zpF, List.length_cons, List.length_nil, Nat.reduceAdd, Nat.reduceLT, and_self, List.set_cons_succ, List.set_cons_zero, hX.1, hY.1]
    have F1 := F0.tr (zFr.set (S := fun j => k ≤ j ∧ j ≤ k + 8) (h := g2) (k := k) (c := zob 3 [.int (a 0), .int (a 1), .int (a 2), .ref (k + 1), .ref (k + 2), .ref (k + 3), .int w3, .ref (k + 4), .ref (k + 5), .int w4, .ref (k + 6), .ref (k + 7), .ref (k + 8)]) ⟨by omega, by omega⟩)
    have X1 := hX.obj (a 0) (a 1) (a 2) w3 w4
    have Y1 := hY.ne (j := k) (c := zob 3 [.int (a 0), .int (a 1), .int (a 2), .ref (k + 1), .ref (k + 2), .ref (k + 3), .int w3, .ref (k + 4), .ref (k + 5), .int w4, .ref (k + 6), .ref (k + 7), .ref (k + 8)]) (by omega)
    generalize g2.set k (zob 3 [.int (a 0), .int (a 1), .int (a 2), .ref (k + 1), .ref (k + 2), .ref (k + 3), .int w3, .ref (k + 4), .ref (k + 5), .int w4, .ref (k + 6), .ref (k + 7), .ref (k + 8)]) = g3 at F1 X1 Y1 ⊢
    clear F0 hX hY
    have F0 := F1
    have hX := X1
    have hY := Y1
    clear F1 X1 Y1
    simp only [e13_0, e13_1, e13_2, e13_5, e13_8, e13_9, e13_10, e13_13, e13_16, e13_17, e13_18, e13_21, e13_24, e13_25, e13_28, e13_29, e13_30, e13_33, e13_34, e13_35, e13_41, e13_42, e13_45, e13_46, e13_47, e13_50, e13_51, e13_52, e13_58, e13_59, e13_62, e13_63, e13_64, e13_67, e13_68, e13_69, e13_75, e13_76, e13_77, e13_80, e13_83, e13_84, e13_87, e13_88, e13_89, e13_92, e13_93, e13_94, e13_100, e13_101, e13_104, e13_105, e13_106, e13_109, e13_110, e13_111, e13_117, e13_118, e13_119, e13_122, e13_125, e13_126, e13_129, e13_130, e13_131, e13_134, e13_135, e13_136, e13_142, e13_143, e13_146, e13_147, e13_148, e13_151, e13_152, e13_153, e13_159, e13_160, e13_163, e13_164, e13_165, e13_168, e13_169, e13_170, e13_176, zgF, zgA, zgR, zisO, zpush, zopt_some, ↓reduceIte, List.getElem?_cons_succ, List.getElem?_cons_zero, beq_self_eq_true, true_and, and_true, Bool.true_and, Bool.and_true, Bool.false_and, Bool.and_false, nI_1, not_true_eq_false, not_false_eq_true, vp_narI, zpF, List.length_cons, List.length_nil, Nat.reduceAdd, Nat.reduceLT, and_self, List.set_cons_succ, List.set_cons_zero, hX.1, hY.1]
    rw [e13_38 hY.2.1 hX.2.1 (Or.inl rfl) z0 z0 p2 (by rw [y0, Nat.zero_add]; exact Nat.le_trans b2 (by decide)) (by rw [y0, Nat.zero_add]; exact Nat.le_trans b2 (by decide)) (fun _ _ => rfl)]
    have F1 := F0.tr (zFr.set (S := fun j => k ≤ j ∧ j ≤ k + 8) (h := g3) (k := k + 1) (c := zar .int 12 (va_cpy f1 d1 (0 : Int32).toNatClampNeg (0 : Int32).toNatClampNeg (a 2).toNatClampNeg)) ⟨by omega, by omega⟩)
    have X1 := hX.a1 (va_cpy f1 d1 (0 : Int32).toNatClampNeg (0 : Int32).toNatClampNeg (a 2).toNatClampNeg)
    have Y1 := hY.ne (j := k + 1) (c := zar .int 12 (va_cpy f1 d1 (0 : Int32).toNatClampNeg (0 : Int32).toNatClampNeg (a 2).toNatClampNeg)) (by omega)
    generalize g3.set (k + 1) (zar .int 12 (va_cpy f1 d1 (0 : Int32).toNatClampNeg (0 : Int32).toNatClampNeg (a 2).toNatClampNeg)) = g4 at F1 X1 Y1 ⊢
    clear F0 hX hY
    have F0 := F1
    have hX := X1
    have hY := Y1
    clear F1 X1 Y1
    simp only [e13_0, e13_1, e13_2, e13_5, e13_8, e13_9, e13_10, e13_13, e13_16, e13_17, e13_18, e13_21, e13_24, e13_25, e13_28, e13_29, e13_30, e13_33, e13_34, e13_35, e13_41, e13_42, e13_45, e13_46, e13_47, e13_50, e13_51, e13_52, e13_58, e13_59, e13_62, e13_63, e13_64, e13_67, e13_68, e13_69, e13_75, e13_76, e13_77, e13_80, e13_83, e13_84, e13_87, e13_88, e13_89, e13_92, e13_93, e13_94, e13_100, e13_101, e13_104, e13_105, e13_106, e13_109, e13_110, e13_111, e13_117, e13_118, e13_119, e13_122, e13_125, e13_126, e13_129, e13_130, e13_131, e13_134, e13_135, e13_136, e13_142, e13_143, e13_146, e13_147, e13_148, e13_151, e13_152, e13_153, e13_159, e13_160, e13_163, e13_164, e13_165, e13_168, e13_169, e13_170, e13_176, zgF, zgA, zgR, zisO, zpush, zopt_some, ↓reduceIte, List.getElem?_cons_succ, List.getElem?_cons_zero, beq_self_eq_true, true_and, and_true, Bool.true_and, Bool.and_true, Bool.false_and, Bool.and_false, nI_1, not_true_eq_false, not_false_eq_true, vp_narI, zpF, List.length_cons, List.length_nil, Nat.reduceAdd, Nat.reduceLT, and_self, List.set_cons_succ, List.set_cons_zero, hX.1, hY.1]
    rw [e13_55 hY.2.2.1 hX.2.2.1 (Or.inl rfl) z0 z0 p2 (by rw [y0, Nat.zero_add]; exact Nat.le_trans b2 (by decide)) (by rw [y0, Nat.zero_add]; exact Nat.le_trans b2 (by decide)) (fun _ _ => rfl)]
    have F1 := F0.tr (zFr.set (S := fun j => k ≤ j ∧ j ≤ k + 8) (h := g4) (k := k + 2) (c := zar .int 12 (va_cpy f2 d2 (0 : Int32).toNatClampNeg (0 : Int32).toNatClampNeg (a 2).toNatClampNeg)) ⟨by omega, by omega⟩)
    have X1 := hX.a2 (va_cpy f2 d2 (0 : Int32).toNatClampNeg (0 : Int32).toNatClampNeg (a 2).toNatClampNeg)
    have Y1 := hY.ne (j := k + 2) (c := zar .int 12 (va_cpy f2 d2 (0 : Int32).toNatClampNeg (0 : Int32).toNatClampNeg (a 2).toNatClampNeg)) (by omega)
    generalize g4.set (k + 2) (zar .int 12 (va_cpy f2 d2 (0 : Int32).toNatClampNeg (0 : Int32).toNatClampNeg (a 2).toNatClampNeg)) = g5 at F1 X1 Y1 ⊢
    clear F0 hX hY
    have F0 := F1
    have hX := X1
    have hY := Y1
    clear F1 X1 Y1
    simp only [e13_0, e13_1, e13_2, e13_5, e13_8, e13_9, e13_10, e13_13, e13_16, e13_17, e13_18, e13_21, e13_24, e13_25, e13_28, e13_29, e13_30, e13_33, e13_34, e13_35, e13_41, e13_42, e13_45, e13_46, e13_47, e13_50, e13_51, e13_52, e13_58, e13_59, e13_62, e13_63, e13_64, e13_67, e13_68, e13_69, e13_75, e13_76, e13_77, e13_80, e13_83, e13_84, e13_87, e13_88, e13_89, e13_92, e13_93, e13_94, e13_100, e13_101, e13_104, e13_105, e13_106, e13_109, e13_110, e13_111, e13_117, e13_118, e13_119, e13_122, e13_125, e13_126, e13_129, e13_130, e13_131, e13_134, e13_135, e13_136, e13_142, e13_143, e13_146, e13_147, e13_148, e13_151, e13_152, e13_153, e13_159, e13_160, e13_163, e13_164, e13_165, e13_168, e13_169, e13_170, e13_176, zgF, zgA, zgR, zisO, zpush, zopt_some, ↓reduceIte, List.getElem?_cons_succ, List.getElem?_cons_zero, beq_self_eq_true, true_and, and_true, Bool.true_and, Bool.and_true, Bool.false_and, Bool.and_false, nI_1, not_true_eq_false, not_false_eq_true, vp_narI, zpF, List.length_cons, List.length_nil, Nat.reduceAdd, Nat.reduceLT, and_self, List.set_cons_succ, List.set_cons_zero, hX.1, hY.1]
    rw [e13_72 hY.2.2.2.1 hX.2.2.2.1 (Or.inr rfl) z0 z0 p2 (by rw [y0, Nat.zero_add]; exact Nat.le_trans b2 (by decide)) (by rw [y0, Nat.zero_add]; exact Nat.le_trans b2 (by decide)) (fun i hi => by
      rw [y0, Nat.zero_add, hA.2.2.1 i hi]
      rcases (hg.2.2.2.2.2.1 i hi).2.2 with h | h <;> rw [h] <;> rfl)]
    have F1 := F0.tr (zFr.set (S := fun j => k ≤ j ∧ j ≤ k + 8) (h := g5) (k := k + 3) (c := zar .boolean 12 (va_cpy f3 d3 (0 : Int32).toNatClampNeg (0 : Int32).toNatClampNeg (a 2).toNatClampNeg)) ⟨by omega, by omega⟩)
    have X1 := hX.a3 (va_cpy f3 d3 (0 : Int32).toNatClampNeg (0 : Int32).toNatClampNeg (a 2).toNatClampNeg)
    have Y1 := hY.ne (j := k + 3) (c := zar .boolean 12 (va_cpy f3 d3 (0 : Int32).toNatClampNeg (0 : Int32).toNatClampNeg (a 2).toNatClampNeg)) (by omega)
    generalize g5.set (k + 3) (zar .boolean 12 (va_cpy f3 d3 (0 : Int32).toNatClampNeg (0 : Int32).toNatClampNeg (a 2).toNatClampNeg)) = g6 at F1 X1 Y1 ⊢
    clear F0 hX hY
    have F0 := F1
    have hX := X1
    have hY := Y1
    clear F1 X1 Y1
    simp only [e13_0, e13_1, e13_2, e13_5, e13_8, e13_9, e13_10, e13_13, e13_16, e13_17, e13_18, e13_21, e13_24, e13_25, e13_28, e13_29, e13_30, e13_33, e13_34, e13_35, e13_41, e13_42, e13_45, e13_46, e13_47, e13_50, e13_51, e13_52, e13_58, e13_59, e13_62, e13_63, e13_64, e13_67, e13_68, e13_69, e13_75, e13_76, e13_77, e13_80, e13_83, e13_84, e13_87, e13_88, e13_89, e13_92, e13_93, e13_94, e13_100, e13_101, e13_104, e13_105, e13_106, e13_109, e13_110, e13_111, e13_117, e13_118, e13_119, e13_122, e13_125, e13_126, e13_129, e13_130, e13_131, e13_134, e13_135, e13_136, e13_142, e13_143, e13_146, e13_147, e13_148, e13_151, e13_152, e13_153, e13_159, e13_160, e13_163, e13_164, e13_165, e13_168, e13_169, e13_170, e13_176, zgF, zgA, zgR, zisO, zpush, zopt_some, ↓reduceIte, List.getElem?_cons_succ, List.getElem?_cons_zero, beq_self_eq_true, true_and, and_true, Bool.true_and, Bool.and_true, Bool.false_and, Bool.and_false, nI_1, not_true_eq_false, not_false_eq_true, vp_narI, zpF, List.length_cons, List.length_nil, Nat.reduceAdd, Nat.reduceLT, and_self, List.set_cons_succ, List.set_cons_zero, hX.1, hY.1]
    have F1 := F0.tr (zFr.set (S := fun j => k ≤ j ∧ j ≤ k + 8) (h := g6) (k := k) (c := zob 3 [.int (a 0), .int (a 1), .int (a 2), .ref (k + 1), .ref (k + 2), .ref (k + 3), .int (a 3), .ref (k + 4), .ref (k + 5), .int w4, .ref (k + 6), .ref (k + 7), .ref (k + 8)]) ⟨by omega, by omega⟩)
    have X1 := hX.obj (a 0) (a 1) (a 2) (a 3) w4
    have Y1 := hY.ne (j := k) (c := zob 3 [.int (a 0), .int (a 1), .int (a 2), .ref (k + 1), .ref (k + 2), .ref (k + 3), .int (a 3), .ref (k + 4), .ref (k + 5), .int w4, .ref (k + 6), .ref (k + 7), .ref (k + 8)]) (by omega)
    generalize g6.set k (zob 3 [.int (a 0), .int (a 1), .int (a 2), .ref (k + 1), .ref (k + 2), .ref (k + 3), .int (a 3), .ref (k + 4), .ref (k + 5), .int w4, .ref (k + 6), .ref (k + 7), .ref (k + 8)]) = g7 at F1 X1 Y1 ⊢
    clear F0 hX hY
    have F0 := F1
    have hX := X1
    have hY := Y1
    clear F1 X1 Y1
    simp only [e13_0, e13_1, e13_2, e13_5, e13_8, e13_9, e13_10, e13_13, e13_16, e13_17, e13_18, e13_21, e13_24, e13_25, e13_28, e13_29, e13_30, e13_33, e13_34, e13_35, e13_41, e13_42, e13_45, e13_46, e13_47, e13_50, e13_51, e13_52, e13_58, e13_59, e13_62, e13_63, e13_64, e13_67, e13_68, e13_69, e13_75, e13_76, e13_77, e13_80, e13_83, e13_84, e13_87, e13_88, e13_89, e13_92, e13_93, e13_94, e13_100, e13_101, e13_104, e13_105, e13_106, e13_109, e13_110, e13_111, e13_117, e13_118, e13_119, e13_122, e13_125, e13_126, e13_129, e13_130, e13_131, e13_134, e13_135, e13_136, e13_142, e13_143, e13_146, e13_147, e13_148, e13_151, e13_152, e13_153, e13_159, e13_160, e13_163, e13_164, e13_165, e13_168, e13_169, e13_170, e13_176, zgF, zgA, zgR, zisO, zpush, zopt_some, ↓reduceIte, List.getElem?_cons_succ, List.getElem?_cons_zero, beq_self_eq_true, true_and, and_true, Bool.true_and, Bool.and_true, Bool.false_and, Bool.and_false, nI_1, not_true_eq_false, not_false_eq_true, vp_narI, zpF, List.length_cons, List.length_nil, Nat.reduceAdd, Nat.reduceLT, and_self, List.set_cons_succ, List.set_cons_zero, hX.1, hY.1]
    rw [e13_97 hY.2.2.2.2.1 hX.2.2.2.2.1 (Or.inl rfl) z0 z0 p3 (by rw [y0, Nat.zero_add]; exact Nat.le_trans b3 (by decide)) (by rw [y0, Nat.zero_add]; exact Nat.le_trans b3 (by decide)) (fun _ _ => rfl)]
    have F1 := F0.tr (zFr.set (S := fun j => k ≤ j ∧ j ≤ k + 8) (h := g7) (k := k + 4) (c := zar .int 40 (va_cpy f4 d4 (0 : Int32).toNatClampNeg (0 : Int32).toNatClampNeg (a 3).toNatClampNeg)) ⟨by omega, by omega⟩)
    have X1 := hX.a4 (va_cpy f4 d4 (0 : Int32).toNatClampNeg (0 : Int32).toNatClampNeg (a 3).toNatClampNeg)
    have Y1 := hY.ne (j := k + 4) (c := zar .int 40 (va_cpy f4 d4 (0 : Int32).toNatClampNeg (0 : Int32).toNatClampNeg (a 3).toNatClampNeg)) (by omega)
    generalize g7.set (k + 4) (zar .int 40 (va_cpy f4 d4 (0 : Int32).toNatClampNeg (0 : Int32).toNatClampNeg (a 3).toNatClampNeg)) = g8 at F1 X1 Y1 ⊢
    clear F0 hX hY
    have F0 := F1
    have hX := X1
    have hY := Y1
    clear F1 X1 Y1
    simp only [e13_0, e13_1, e13_2, e13_5, e13_8, e13_9, e13_10, e13_13, e13_16, e13_17, e13_18, e13_21, e13_24, e13_25, e13_28, e13_29, e13_30, e13_33, e13_34, e13_35, e13_41, e13_42, e13_45, e13_46, e13_47, e13_50, e13_51, e13_52, e13_58, e13_59, e13_62, e13_63, e13_64, e13_67, e13_68, e13_69, e13_75, e13_76, e13_77, e13_80, e13_83, e13_84, e13_87, e13_88, e13_89, e13_92, e13_93, e13_94, e13_100, e13_101, e13_104, e13_105, e13_106, e13_109, e13_110, e13_111, e13_117, e13_118, e13_119, e13_122, e13_125, e13_126, e13_129, e13_130, e13_131, e13_134, e13_135, e13_136, e13_142, e13_143, e13_146, e13_147, e13_148, e13_151, e13_152, e13_153, e13_159, e13_160, e13_163, e13_164, e13_165, e13_168, e13_169, e13_170, e13_176, zgF, zgA, zgR, zisO, zpush, zopt_some, ↓reduceIte, List.getElem?_cons_succ, List.getElem?_cons_zero, beq_self_eq_true, true_and, and_true, Bool.true_and, Bool.and_true, Bool.false_and, Bool.and_false, nI_1, not_true_eq_false, not_false_eq_true, vp_narI, zpF, List.length_cons, List.length_nil, Nat.reduceAdd, Nat.reduceLT, and_self, List.set_cons_succ, List.set_cons_zero, hX.1, hY.1]
    rw [e13_114 hY.2.2.2.2.2.1 hX.2.2.2.2.2.1 (Or.inl rfl) z0 z0 p3 (by rw [y0, Nat.zero_add]; exact Nat.le_trans b3 (by decide)) (by rw [y0, Nat.zero_add]; exact Nat.le_trans b3 (by decide)) (fun _ _ => rfl)]
    have F1 := F0.tr (zFr.set (S := fun j => k ≤ j ∧ j ≤ k + 8) (h := g8) (k := k + 5) (c := zar .int 40 (va_cpy f5 d5 (0 : Int32).toNatClampNeg (0 : Int32).toNatClampNeg (a 3).toNatClampNeg)) ⟨by omega, by omega⟩)
    have X1 := hX.a5 (va_cpy f5 d5 (0 : Int32).toNatClampNeg (0 : Int32).toNatClampNeg (a 3).toNatClampNeg)
    have Y1 := hY.ne (j := k + 5) (c := zar .int 40 (va_cpy f5 d5 (0 : Int32).toNatClampNeg (0 : Int32).toNatClampNeg (a 3).toNatClampNeg)) (by omega)
    generalize g8.set (k + 5) (zar .int 40 (va_cpy f5 d5 (0 : Int32).toNatClampNeg (0 : Int32).toNatClampNeg (a 3).toNatClampNeg)) = g9 at F1 X1 Y1 ⊢
    clear F0 hX hY
    have F0 := F1
    have hX := X1
    have hY := Y1
    clear F1 X1 Y1
    simp only [e13_0, e13_1, e13_2, e13_5, e13_8, e13_9, e13_10, e13_13, e13_16, e13_17, e13_18, e13_21, e13_24, e13_25, e13_28, e13_29, e13_30, e13_33, e13_34, e13_35, e13_41, e13_42, e13_45, e13_46, e13_47, e13_50, e13_51, e13_52, e13_58, e13_59, e13_62, e13_63, e13_64, e13_67, e13_68, e13_69, e13_75, e13_76, e13_77, e13_80, e13_83, e13_84, e13_87, e13_88, e13_89, e13_92, e13_93, e13_94, e13_100, e13_101, e13_104, e13_105, e13_106, e13_109, e13_110, e13_111, e13_117, e13_118, e13_119, e13_122, e13_125, e13_126, e13_129, e13_130, e13_131, e13_134, e13_135, e13_136, e13_142, e13_143, e13_146, e13_147, e13_148, e13_151, e13_152, e13_153, e13_159, e13_160, e13_163, e13_164, e13_165, e13_168, e13_169, e13_170, e13_176, zgF, zgA, zgR, zisO, zpush, zopt_some, ↓reduceIte, List.getElem?_cons_succ, List.getElem?_cons_zero, beq_self_eq_true, true_and, and_true, Bool.true_and, Bool.and_true, Bool.false_and, Bool.and_false, nI_1, not_true_eq_false, not_false_eq_true, vp_narI, zpF, List.length_cons, List.length_nil, Nat.reduceAdd, Nat.reduceLT, and_self, List.set_cons_succ, List.set_cons_zero, hX.1, hY.1]
    have F1 := F0.tr (zFr.set (S := fun j => k ≤ j ∧ j ≤ k + 8) (h := g9) (k := k) (c := zob 3 [.int (a 0), .int (a 1), .int (a 2), .ref (k + 1), .ref (k + 2), .ref (k + 3), .int (a 3), .ref (k + 4), .ref (k + 5), .int (a 4), .ref (k + 6), .ref (k + 7), .ref (k + 8)]) ⟨by omega, by omega⟩)
    have X1 := hX.obj (a 0) (a 1) (a 2) (a 3) (a 4)
    have Y1 := hY.ne (j := k) (c := zob 3 [.int (a 0), .int (a 1), .int (a 2), .ref (k + 1), .ref (k + 2), .ref (k + 3), .int (a 3), .ref (k + 4), .ref (k + 5), .int (a 4), .ref (k + 6), .ref (k + 7), .ref (k + 8)]) (by omega)
    generalize g9.set k (zob 3 [.int (a 0), .int (a 1), .int (a 2), .ref (k + 1), .ref (k + 2), .ref (k + 3), .int (a 3), .ref (k + 4), .ref (k + 5), .int (a 4), .ref (k + 6), .ref (k + 7), .ref (k + 8)]) = g10 at F1 X1 Y1 ⊢
    clear F0 hX hY
    have F0 := F1
    have hX := X1
    have hY := Y1
    clear F1 X1 Y1
    simp only [e13_0, e13_1, e13_2, e13_5, e13_8, e13_9, e13_10, e13_13, e13_16, e13_17, e13_18, e13_21, e13_24, e13_25, e13_28, e13_29, e13_30, e13_33, e13_34, e13_35, e13_41, e13_42, e13_45, e13_46, e13_47, e13_50, e13_51, e13_52, e13_58, e13_59, e13_62, e13_63, e13_64, e13_67, e13_68, e13_69, e13_75, e13_76, e13_77, e13_80, e13_83, e13_84, e13_87, e13_88, e13_89, e13_92, e13_93, e13_94, e13_100, e13_101, e13_104, e13_105, e13_106, e13_109, e13_110, e13_111, e13_117, e13_118, e13_119, e13_122, e13_125, e13_126, e13_129, e13_130, e13_131, e13_134, e13_135, e13_136, e13_142, e13_143, e13_146, e13_147, e13_148, e13_151, e13_152, e13_153, e13_159, e13_160, e13_163, e13_164, e13_165, e13_168, e13_169, e13_170, e13_176, zgF, zgA, zgR, zisO, zpush, zopt_some, ↓reduceIte, List.getElem?_cons_succ, List.getElem?_cons_zero, beq_self_eq_true, true_and, and_true, Bool.true_and, Bool.and_true, Bool.false_and, Bool.and_false, nI_1, not_true_eq_false, not_false_eq_true, vp_narI, zpF, List.length_cons, List.length_nil, Nat.reduceAdd, Nat.reduceLT, and_self, List.set_cons_succ, List.set_cons_zero, hX.1, hY.1]
    rw [e13_139 hY.2.2.2.2.2.2.1 hX.2.2.2.2.2.2.1 (Or.inl rfl) z0 z0 p4 (by rw [y0, Nat.zero_add]; exact Nat.le_trans b4 (by decide)) (by rw [y0, Nat.zero_add]; exact Nat.le_trans b4 (by decide)) (fun _ _ => rfl)]
    have F1 := F0.tr (zFr.set (S := fun j => k ≤ j ∧ j ≤ k + 8) (h := g10) (k := k + 6) (c := zar .int 120 (va_cpy f6 d6 (0 : Int32).toNatClampNeg (0 : Int32).toNatClampNeg (a 4).toNatClampNeg)) ⟨by omega, by omega⟩)
    have X1 := hX.a6 (va_cpy f6 d6 (0 : Int32).toNatClampNeg (0 : Int32).toNatClampNeg (a 4).toNatClampNeg)
    have Y1 := hY.ne (j := k + 6) (c := zar .int 120 (va_cpy f6 d6 (0 : Int32).toNatClampNeg (0 : Int32).toNatClampNeg (a 4).toNatClampNeg)) (by omega)
    generalize g10.set (k + 6) (zar .int 120 (va_cpy f6 d6 (0 : Int32).toNatClampNeg (0 : Int32).toNatClampNeg (a 4).toNatClampNeg)) = g11 at F1 X1 Y1 ⊢
    clear F0 hX hY
    have F0 := F1
    have hX := X1
    have hY := Y1
    clear F1 X1 Y1
    simp only [e13_0, e13_1, e13_2, e13_5, e13_8, e13_9, e13_10, e13_13, e13_16, e13_17, e13_18, e13_21, e13_24, e13_25, e13_28, e13_29, e13_30, e13_33, e13_34, e13_35, e13_41, e13_42, e13_45, e13_46, e13_47, e13_50, e13_51, e13_52, e13_58, e13_59, e13_62, e13_63, e13_64, e13_67, e13_68, e13_69, e13_75, e13_76, e13_77, e13_80, e13_83, e13_84, e13_87, e13_88, e13_89, e13_92, e13_93, e13_94, e13_100, e13_101, e13_104, e13_105, e13_106, e13_109, e13_110, e13_111, e13_117, e13_118, e13_119, e13_122, e13_125, e13_126, e13_129, e13_130, e13_131, e13_134, e13_135, e13_136, e13_142, e13_143, e13_146, e13_147, e13_148, e13_151, e13_152, e13_153, e13_159, e13_160, e13_163, e13_164, e13_165, e13_168, e13_169, e13_170, e13_176, zgF, zgA, zgR, zisO, zpush, zopt_some, ↓reduceIte, List.getElem?_cons_succ, List.getElem?_cons_zero, beq_self_eq_true, true_and, and_true, Bool.true_and, Bool.and_true, Bool.false_and, Bool.and_false, nI_1, not_true_eq_false, not_false_eq_true, vp_narI, zpF, List.length_cons, List.length_nil, Nat.reduceAdd, Nat.reduceLT, and_self, List.set_cons_succ, List.set_cons_zero, hX.1, hY.1]
    rw [e13_156 hY.2.2.2.2.2.2.2.1 hX.2.2.2.2.2.2.2.1 (Or.inl rfl) z0 z0 p4 (by rw [y0, Nat.zero_add]; exact Nat.le_trans b4 (by decide)) (by rw [y0, Nat.zero_add]; exact Nat.le_trans b4 (by decide)) (fun _ _ => rfl)]
    have F1 := F0.tr (zFr.set (S := fun j => k ≤ j ∧ j ≤ k + 8) (h := g11) (k := k + 7) (c := zar .int 120 (va_cpy f7 d7 (0 : Int32).toNatClampNeg (0 : Int32).toNatClampNeg (a 4).toNatClampNeg)) ⟨by omega, by omega⟩)
    have X1 := hX.a7 (va_cpy f7 d7 (0 : Int32).toNatClampNeg (0 : Int32).toNatClampNeg (a 4).toNatClampNeg)
    have Y1 := hY.ne (j := k + 7) (c := zar .int 120 (va_cpy f7 d7 (0 : Int32).toNatClampNeg (0 : Int32).toNatClampNeg (a 4).toNatClampNeg)) (by omega)
    generalize g11.set (k + 7) (zar .int 120 (va_cpy f7 d7 (0 : Int32).toNatClampNeg (0 : Int32).toNatClampNeg (a 4).toNatClampNeg)) = g12 at F1 X1 Y1 ⊢
    clear F0 hX hY
    have F0 := F1
    have hX := X1
    have hY := Y1
    clear F1 X1 Y1
    simp only [e13_0, e13_1, e13_2, e13_5, e13_8, e13_9, e13_10, e13_13, e13_16, e13_17, e13_18, e13_21, e13_24, e13_25, e13_28, e13_29, e13_30, e13_33, e13_34, e13_35, e13_41, e13_42, e13_45, e13_46, e13_47, e13_50, e13_51, e13_52, e13_58, e13_59, e13_62, e13_63, e13_64, e13_67, e13_68, e13_69, e13_75, e13_76, e13_77, e13_80, e13_83, e13_84, e13_87, e13_88, e13_89, e13_92, e13_93, e13_94, e13_100, e13_101, e13_104, e13_105, e13_106, e13_109, e13_110, e13_111, e13_117, e13_118, e13_119, e13_122, e13_125, e13_126, e13_129, e13_130, e13_131, e13_134, e13_135, e13_136, e13_142, e13_143, e13_146, e13_147, e13_148, e13_151, e13_152, e13_153, e13_159, e13_160, e13_163, e13_164, e13_165, e13_168, e13_169, e13_170, e13_176, zgF, zgA, zgR, zisO, zpush, zopt_some, ↓reduceIte, List.getElem?_cons_succ, List.getElem?_cons_zero, beq_self_eq_true, true_and, and_true, Bool.true_and, Bool.and_true, Bool.false_and, Bool.and_false, nI_1, not_true_eq_false, not_false_eq_true, vp_narI, zpF, List.length_cons, List.length_nil, Nat.reduceAdd, Nat.reduceLT, and_self, List.set_cons_succ, List.set_cons_zero, hX.1, hY.1]
    rw [e13_173 hY.2.2.2.2.2.2.2.2 hX.2.2.2.2.2.2.2.2 (Or.inl rfl) z0 z0 p4 (by rw [y0, Nat.zero_add]; exact Nat.le_trans b4 (by decide)) (by rw [y0, Nat.zero_add]; exact Nat.le_trans b4 (by decide)) (fun _ _ => rfl)]
    have F1 := F0.tr (zFr.set (S := fun j => k ≤ j ∧ j ≤ k + 8) (h := g12) (k := k + 8) (c := zar .int 120 (va_cpy f8 d8 (0 : Int32).toNatClampNeg (0 : Int32).toNatClampNeg (a 4).toNatClampNeg)) ⟨by omega, by omega⟩)
    have X1 := hX.a8 (va_cpy f8 d8 (0 : Int32).toNatClampNeg (0 : Int32).toNatClampNeg (a 4).toNatClampNeg)
    have Y1 := hY.ne (j := k + 8) (c := zar .int 120 (va_cpy f8 d8 (0 : Int32).toNatClampNeg (0 : Int32).toNatClampNeg (a 4).toNatClampNeg)) (by omega)
    generalize g12.set (k + 8) (zar .int 120 (va_cpy f8 d8 (0 : Int32).toNatClampNeg (0 : Int32).toNatClampNeg (a 4).toNatClampNeg)) = g13 at F1 X1 Y1 ⊢
    clear F0 hX hY
    have F0 := F1
    have hX := X1
    have hY := Y1
    clear F1 X1 Y1
    simp only [e13_0, e13_1, e13_2, e13_5, e13_8, e13_9, e13_10, e13_13, e13_16, e13_17, e13_18, e13_21, e13_24, e13_25, e13_28, e13_29, e13_30, e13_33, e13_34, e13_35, e13_41, e13_42, e13_45, e13_46, e13_47, e13_50, e13_51, e13_52, e13_58, e13_59, e13_62, e13_63, e13_64, e13_67, e13_68, e13_69, e13_75, e13_76, e13_77, e13_80, e13_83, e13_84, e13_87, e13_88, e13_89, e13_92, e13_93, e13_94, e13_100, e13_101, e13_104, e13_105, e13_106, e13_109, e13_110, e13_111, e13_117, e13_118, e13_119, e13_122, e13_125, e13_126, e13_129, e13_130, e13_131, e13_134, e13_135, e13_136, e13_142, e13_143, e13_146, e13_147, e13_148, e13_151, e13_152, e13_153, e13_159, e13_160, e13_163, e13_164, e13_165, e13_168, e13_169, e13_170, e13_176, zgF, zgA, zgR, zisO, zpush, zopt_some, ↓reduceIte, List.getElem?_cons_succ, List.getElem?_cons_zero, beq_self_eq_true, true_and, and_true, Bool.true_and, Bool.and_true, Bool.false_and, Bool.and_false, nI_1, not_true_eq_false, not_false_eq_true, vp_narI]
    obtain ⟨q1, q2, q3, q4, q5, q6, q7, q8⟩ := hA
    exact hQ _ F0 (hX.st ⟨fun i hi => (cpy_lo hi).trans (q1 i hi), fun i hi => (cpy_lo hi).trans (q2 i hi), fun i hi => (cpy_lo hi).trans (q3 i hi), fun i hi => (cpy_lo hi).trans (q4 i hi), fun i hi => (cpy_lo hi).trans (q5 i hi), fun i hi => (cpy_lo hi).trans (q6 i hi), fun i hi => (cpy_lo hi).trans (q7 i hi), fun i hi => (cpy_lo hi).trans (q8 i hi)⟩)
  exact key h F0 hQ

end ZC
end
