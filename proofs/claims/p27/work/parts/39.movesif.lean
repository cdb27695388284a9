/-! how many moves a change would make -/
section
set_option maxRecDepth 100000
def cntS (S : Int32) : Nat := if S = 0 then 0 else if clr S = 0 then 1 else if clr (clr S) = 0 then 2 else 3
theorem clr_0 : clr 0 = 0 := by decide
theorem okS_d {S : Int32} (h : okS S = true) : nthS S 0 = lowI S ∧ nthS S 1 = lowI (clr S) ∧ nthS S 2 = lowI (clr (clr S)) ∧ clr (clr (clr S)) = 0 ∧ (S = 0 ∨ hasB S 12 0 = true) ∧ (clr S = 0 ∨ hasB (clr S) 12 0 = true) ∧ (clr (clr S) = 0 ∨ hasB (clr (clr S)) 12 0 = true) ∧
    (lowI S = -6 ↔ S = 0) ∧ (lowI (clr S) = -6 ↔ clr S = 0) ∧ (lowI (clr (clr S)) = -6 ↔ clr (clr S) = 0) ∧ bcF S = nI (cntS S) := by
  unfold okS at h
  simp only [Bool.and_eq_true, beq_iff_eq, Bool.or_eq_true] at h
  obtain ⟨⟨⟨⟨⟨⟨⟨⟨⟨⟨h1, h2⟩, h3⟩, h4⟩, h5⟩, h6⟩, h7⟩, h8⟩, h9⟩, h10⟩, h11⟩ := h
  refine ⟨h1, h2, h3, h4, h5, h6, h7, ?_, ?_, ?_, ?_⟩
  · rw [Bool.eq_iff_iff] at h8; simpa using h8
  · rw [Bool.eq_iff_iff] at h9; simpa using h9
  · rw [Bool.eq_iff_iff] at h10; simpa using h10
  · rw [h11]
    unfold cntS
    split
    · rfl
    · split
      · rfl
      · split <;> rfl
theorem nthS_c {S : Int32} (h : okS S = true) : ∀ i, i < 3 → (nthS S i = -6 ↔ cntS S ≤ i) := by
  obtain ⟨h1, h2, h3, h4, -, -, -, h8, h9, h10, -⟩ := okS_d h
  intro i hi
  unfold cntS
  rcases (show i = 0 ∨ i = 1 ∨ i = 2 by omega) with rfl | rfl | rfl
  · rw [h1, h8]
    by_cases e : S = 0
    · simp [e]
    · rw [if_neg e]; simp only [e, false_iff]; split
      · omega
      · split <;> omega
  · rw [h2, h9]
    by_cases e : S = 0
    · subst e; simp [clr_0]
    · rw [if_neg e]
      by_cases e2 : clr S = 0
      · simp [e2]
      · rw [if_neg e2]; simp only [e2, false_iff]; split <;> omega
  · rw [h3, h10]
    by_cases e : S = 0
    · subst e; simp [clr_0]
    · rw [if_neg e]
      by_cases e2 : clr S = 0
      · rw [e2]; simp [clr_0]
      · rw [if_neg e2]
        by_cases e3 : clr (clr S) = 0
        · simp [e3]
        · rw [if_neg e3]; simp [e3]
theorem cntS_le (S : Int32) : cntS S ≤ 3 := by
  unfold cntS; split
  · omega
  · split
    · omega
    · split <;> omega
theorem amv_c {o lost got : Int32} (h1 : okS lost = true) (h2 : okS got = true) : ∀ (j i : Nat) (r : Nat → Int32), i + j = 3 → gN r 4 + j ≤ 120 → gN (amv o lost got j i r) 4 = gN r 4 + (max (cntS lost) (cntS got) - i)
  | 0, i, r, hi, _ => by
    have a1 := cntS_le lost
    have a2 := cntS_le got
    show gN r 4 = _
    omega
  | j + 1, i, r, hi, hr => by
    have b1 := nthS_c h1 i (by omega)
    have b2 := nthS_c h2 i (by omega)
    unfold amv
    by_cases hc : (nthS lost i = -6 ∧ nthS got i = -6) ∨ 120 ≤ gN r 4
    · rw [if_pos hc]
      rcases hc with hc | hc
      · rw [b1, b2] at hc; omega
      · omega
    · rw [if_neg hc]
      have hn : ¬ (cntS lost ≤ i ∧ cntS got ≤ i) := fun h => hc (Or.inl ⟨b1.mpr h.1, b2.mpr h.2⟩)
      have e := gN_addM (a := r) (o := o) (f := nthS lost i) (t := nthS got i) (by omega)
      rw [amv_c h1 h2 j (i + 1) _ (by omega) (by omega), e]
      omega
def mxS (a0 a1 : Nat → Int32) : Nat → Nat
  | 0 => 0
  | k + 1 => mxS a0 a1 k + max (cntS (lostI a0 a1 k)) (cntS (gotI a0 a1 k))
theorem mxS_le (a0 a1 : Nat → Int32) : ∀ k, mxS a0 a1 k ≤ 3 * k
  | 0 => Nat.le_refl _
  | k + 1 => by
    have := mxS_le a0 a1 k
    have a1' := cntS_le (lostI a0 a1 k)
    have a2' := cntS_le (gotI a0 a1 k)
    unfold mxS
    omega
theorem mvs_c {a0 a1 : Nat → Int32} (h0 : zG a0) (h1 : zG a1) : ∀ k, k ≤ 40 → gN (mvs a0 a1 k) 4 = mxS a0 a1 k
  | 0, _ => by unfold mvs mxS gN; rw [upd_s]; rfl
  | k + 1, hk => by
    have ih := mvs_c h0 h1 k (by omega)
    have hl := mxS_le a0 a1 k
    show gN (amv _ _ _ 3 0 _) 4 = _
    rw [amv_c (lost := lostI a0 a1 k) (got := gotI a0 a1 k) (okS_and h0 k _) (okS_and h1 k _) 3 0 _ rfl (by rw [ih]; omega), ih, Nat.sub_zero]
    rfl
theorem fmA_4 {a0 a1 : Nat → Int32} (h0 : zG a0) (h1 : zG a1) : fmA a0 a1 4 = nI (mxS a0 a1 (gN a1 3)) := by
  have b3 := h1.2.2.2.1.2
  have := mvs_c h0 h1 (gN a1 3) b3
  rw [← this]
  exact (fmA_ok h1).1.2.2.2.2.1.1
theorem mx_I {x y : Nat} (hx : x ≤ 3) (hy : y ≤ 3) : (if nI x < nI y then nI y else nI x) = nI (max x y) := by
  by_cases h : x < y
  · rw [if_pos (nI_lt h (by omega)), Nat.max_eq_right (by omega)]
  · rw [if_neg (nI_nlt (by omega) (by omega)), Nat.max_eq_left (by omega)]
section ZC
variable {h : List zC} {z : Nat × (Nat × (Nat → Int32))} {a b : Nat → Int32} {Q : Option Value → zX → Prop} {P T : Nat}
theorem l_D_movesIf {s w v3 v4 : Int32} (h0 : zG a) (h1 : zG b) (e3 : b 3 = a 3) (hD : zDo h P T) (hS : zSt h 1 a) (hP : zRw h P a (gN a 3)) (hT : zRw h T b (gN a 3)) : ∀ (j i : Nat) (v7 v8 : Value), i + j = gN a 3 →
    Ev 43 59 [.ref 0, .int s, .int w, .int v3, .int v4, .int (nI (mxS a b i)), .int (nI i), v7, v8] [] (h, z) Q = Q (some (.int (nI (mxS a b (gN a 3))))) (h, z) := by
  have hD' : h[0]? = some (zob 5 [.ref 1, .ref 10, .ref 75, .ref 76, .ref 77, .ref 80, .ref P, .ref T]) := hD
  obtain ⟨g3, b3⟩ := h0.2.2.2.1
  obtain ⟨cf, sf, lf, t, L1, H1⟩ := hP
  obtain ⟨cf', sf', lf', t', L2, H2⟩ := hT
  have s0 := hS.1
  intro j
  induction j with
  | zero =>
    intro i v7 v8 hi
    have hi : i = gN a 3 := by omega
    subst hi
    have e1 : a 3 ≤ nI (gN a 3) := by rw [← g3]; exact Int32.le_refl _
    rw [e43_59]
    simp only [e43_0, e43_1, e43_2, e43_3, e43_6, e43_7, e43_8, e43_11, e43_12, e43_13, e43_14, e43_17, e43_20, e43_21, e43_22, e43_24, e43_25, e43_28, e43_31, e43_32, e43_33, e43_34, e43_35, e43_36, e43_39, e43_42, e43_43, e43_46, e43_49, e43_50, e43_52, e43_53, e43_54, e43_56, e43_57, e43_61, e43_62, e43_65, e43_68, e43_71, e43_72, e43_75, e43_77, e43_80, e43_82, e43_83, e43_86, e43_88, e43_91, e43_93, e43_95, e43_97, e43_99, e43_100, e43_101, e43_102, e43_105, e43_107, e43_109, e43_110, e43_111, e43_112, e43_115, e43_118, e43_119, e43_121, e43_124, e43_127, e43_129, zgF, zgA, zgR, zisO, zpush, zopt_some, ↓reduceIte, List.getElem?_cons_succ, List.getElem?_cons_zero, beq_self_eq_true, true_and, and_true, Bool.true_and, Bool.and_true, Bool.false_and, Bool.and_false, nI_1, not_true_eq_false, not_false_eq_true, vp_narI, hD', s0, e1]
  | succ j ih =>
    intro i v7 v8 hi
    have e1 : ¬ a 3 ≤ nI i := by rw [g3]; exact nI_ge (by omega) (by omega)
    have c1 := fun (Q : Option Value → zX → Prop) => c_Y_serversOf (z := z) (Q := Q) L1 (show i < 41 by omega) (H1 i (by omega)) (plK_ok h0 i).2
    have c2 := fun (Q : Option Value → zX → Prop) => c_Y_serversOf (z := z) (Q := Q) L2 (show i < 41 by omega) (H2 i (by omega)) (plK_ok h1 i).2
    have o1 := (okS_d (okS_and h0 i (setI (plK b i) ^^^ (-1)))).2.2.2.2.2.2.2.2.2.2
    have o2 := (okS_d (okS_and h1 i (setI (plK a i) ^^^ (-1)))).2.2.2.2.2.2.2.2.2.2
    rw [← ih (i + 1) (.int (setI (plK a i))) (.int (setI (plK b i))) (by omega), e43_59]
    simp only [e43_0, e43_1, e43_2, e43_3, e43_6, e43_7, e43_8, e43_11, e43_12, e43_13, e43_14, e43_17, e43_20, e43_21, e43_22, e43_24, e43_25, e43_28, e43_31, e43_32, e43_33, e43_34, e43_35, e43_36, e43_39, e43_42, e43_43, e43_46, e43_49, e43_50, e43_52, e43_53, e43_54, e43_56, e43_57, e43_61, e43_62, e43_65, e43_68, e43_71, e43_72, e43_75, e43_77, e43_80, e43_82, e43_83, e43_86, e43_88, e43_91, e43_93, e43_95, e43_97, e43_99, e43_100, e43_101, e43_102, e43_105, e43_107, e43_109, e43_110, e43_111, e43_112, e43_115, e43_118, e43_119, e43_121, e43_124, e43_127, e43_129, zgF, zgA, zgR, zisO, zpush, zopt_some, ↓reduceIte, List.getElem?_cons_succ, List.getElem?_cons_zero, beq_self_eq_true, true_and, and_true, Bool.true_and, Bool.and_true, Bool.false_and, Bool.and_false, nI_1, not_true_eq_false, not_false_eq_true, vp_narI, hD', s0, e1, L1.1, L2.1, c1, c2, c_Ji_bitCount, o1, o2, mx_I (cntS_le _) (cntS_le _), nI_add]
    rfl
theorem upd_back {f : Nat → Int32} {k : Nat} {x : Int32} : upd (upd f k x) k (f k) = f := by
  funext i
  by_cases e : i = k
  · subst e; rw [upd_s]
  · rw [upd_n e, upd_n e]
theorem c_D_movesIf {s w : Int32} (hg : zG a) (hK : zKo h P T a) (hQ : ∀ h' : List zC, zFr zWr h h' → zKo h' P T a → Q (some (.int (chW a s w).1)) (h', z)) : Ev 43 0 [.ref 0, .int s, .int w, zU, zU, zU, zU, zU, zU] [] (h, z) Q := by
  have c1 := fun (Q : Option Value → zX → Prop) => c_D_weightError (s := s) (w := w) (z := z) (Q := Q) hg hK.1
  obtain ⟨⟨hPT, hD, hS, ⟨ln, dr, hW, hC⟩, hL1, ⟨cf', sf', lf', t', hT⟩⟩, hY⟩ := id hK
  have pt : (P = 82 ∧ T = 86) ∨ (P = 86 ∧ T = 82) := hPT
  have hD' : h[0]? = some (zob 5 [.ref 1, .ref 10, .ref 75, .ref 76, .ref 77, .ref 80, .ref P, .ref T]) := hD
  have s0 := hS.1
  unfold chW at hQ
  by_cases h1 : zinb s (gN a 2) = true
  · by_cases h2 : zinb w 17 = true
    · rw [if_pos h1, if_pos h2] at hQ
      obtain ⟨j, hj, rfl⟩ := zinb_ex h1 (by have := hg.2.2.1.2; omega)
      obtain ⟨q, hq, rfl⟩ := zinb_ex h2 (by decide)
      have b2 := hg.2.2.1.2
      have b3 := hg.2.2.2.1.2
      have e1 : (nI j).toNatClampNeg = j := nI_clamp (by omega)
      have e2 : zinb (nI j) 12 = true := zinb_nI (by omega) (by decide)
      rw [e1] at hQ
      have gb := zG_weigh hg (s := j) (r := q) (by omega) (by omega)
      have x3 : gN (upd a (17 + j) (nI q)) 3 = gN a 3 := gN_u (by omega)
      obtain ⟨f, hf, hfj, S1⟩ := hS.weigh hg (s := j) (v := nI q) (by omega)
      have hfj := hfj hj
      simp only [e43_0, e43_1, e43_2, e43_3, e43_6, e43_7, e43_8, e43_11, e43_12, e43_13, e43_14, e43_17, e43_20, e43_21, e43_22, e43_24, e43_25, e43_28, e43_31, e43_32, e43_33, e43_35, e43_36, e43_39, e43_42, e43_43, e43_46, e43_49, e43_50, e43_52, e43_53, e43_54, e43_56, e43_57, e43_61, e43_62, e43_65, e43_68, e43_71, e43_72, e43_75, e43_77, e43_80, e43_82, e43_83, e43_86, e43_88, e43_91, e43_93, e43_95, e43_97, e43_99, e43_100, e43_101, e43_102, e43_105, e43_107, e43_109, e43_110, e43_111, e43_112, e43_115, e43_118, e43_119, e43_121, e43_124, e43_127, e43_129, zgF, zgA, zgR, zisO, zpush, zopt_some, ↓reduceIte, List.getElem?_cons_succ, List.getElem?_cons_zero, beq_self_eq_true, true_and, and_true, Bool.true_and, Bool.and_true, Bool.false_and, Bool.and_false, nI_1, not_true_eq_false, not_false_eq_true, vp_narI, hD', s0, c1, h1, h2, hf, e1, e2, hfj]
      have F1 : zFr (fun j => 1 ≤ j ∧ j ≤ 9) h (h.set (1 + 2) (zar .int 12 (upd f j (nI q)))) := zFr.set ⟨by omega, by omega⟩
      generalize h.set (1 + 2) (zar .int 12 (upd f j (nI q))) = k1 at S1 F1 ⊢
      have D1 : k1[0]? = some (zob 5 [.ref 1, .ref 10, .ref 75, .ref 76, .ref 77, .ref 80, .ref P, .ref T]) := F1.at hD' (by omega)
      simp only [e43_0, e43_1, e43_2, e43_3, e43_6, e43_7, e43_8, e43_11, e43_12, e43_13, e43_14, e43_17, e43_20, e43_21, e43_22, e43_24, e43_25, e43_28, e43_31, e43_32, e43_33, e43_34, e43_35, e43_36, e43_39, e43_42, e43_43, e43_46, e43_49, e43_50, e43_52, e43_53, e43_54, e43_56, e43_57, e43_61, e43_62, e43_65, e43_68, e43_71, e43_72, e43_75, e43_77, e43_80, e43_82, e43_83, e43_86, e43_88, e43_91, e43_93, e43_95, e43_97, e43_99, e43_100, e43_101, e43_102, e43_105, e43_107, e43_109, e43_110, e43_111, e43_112, e43_115, e43_118, e43_119, e43_121, e43_124, e43_127, e43_129, zgF, zgA, zgR, zisO, zpush, zopt_some, ↓reduceIte, List.getElem?_cons_succ, List.getElem?_cons_zero, beq_self_eq_true, true_and, and_true, Bool.true_and, Bool.and_true, Bool.false_and, Bool.and_false, nI_1, not_true_eq_false, not_false_eq_true, vp_narI, D1]
      refine c_D_layAll gb (by omega) D1 S1 (hW.fr (h' := k1) (fun j x y => F1.2 j (by omega))) hC (hT.fr (h' := k1) (fun j x y => F1.2 j (by omega))) (fun k2 ln2 dr2 F2 W2 C2 L2 => ?_)
      have D2 : k2[0]? = some (zob 5 [.ref 1, .ref 10, .ref 75, .ref 76, .ref 77, .ref 80, .ref P, .ref T]) := F2.at D1 (by omega)
      have S2 := S1.fr (h' := k2) (fun j x y => F2.2 j (by omega))
      obtain ⟨f', hf', -, S3⟩ := S2.weigh gb (s := j) (v := a (17 + j)) (by omega)
      rw [upd_back] at S3
      have s2 := S2.1
      simp only [e43_0, e43_1, e43_2, e43_3, e43_6, e43_7, e43_8, e43_11, e43_12, e43_13, e43_14, e43_17, e43_20, e43_21, e43_22, e43_24, e43_25, e43_28, e43_31, e43_32, e43_33, e43_34, e43_35, e43_36, e43_39, e43_42, e43_43, e43_46, e43_49, e43_50, e43_52, e43_54, e43_56, e43_57, e43_61, e43_62, e43_65, e43_68, e43_71, e43_72, e43_75, e43_77, e43_80, e43_82, e43_83, e43_86, e43_88, e43_91, e43_93, e43_95, e43_97, e43_99, e43_100, e43_101, e43_102, e43_105, e43_107, e43_109, e43_110, e43_111, e43_112, e43_115, e43_118, e43_119, e43_121, e43_124, e43_127, e43_129, zgF, zgA, zgR, zisO, zpush, zopt_some, ↓reduceIte, List.getElem?_cons_succ, List.getElem?_cons_zero, beq_self_eq_true, true_and, and_true, Bool.true_and, Bool.and_true, Bool.false_and, Bool.and_false, nI_1, not_true_eq_false, not_false_eq_true, vp_narI, D2, s2, hf', e1, e2]
      have F3 : zFr (fun j => 1 ≤ j ∧ j ≤ 9) k2 (k2.set (1 + 2) (zar .int 12 (upd f' j (a (17 + j))))) := zFr.set ⟨by omega, by omega⟩
      generalize k2.set (1 + 2) (zar .int 12 (upd f' j (a (17 + j)))) = k3 at S3 F3 ⊢
      have D3 : zDo k3 P T := F3.at D2 (by omega)
      have off : ∀ y, 10 ≤ y → ¬ (78 ≤ y ∧ y ≤ 79) → ¬ (T ≤ y ∧ y ≤ T + 3) → k3[y]? = h[y]? := fun y y1 y2 y3 => ((F3.2 y (by omega)).trans (F2.2 y (by omega))).trans (F1.2 y (by omega))
      have Y3 : zLy k3 P a := hY.fr (fun y x1 x2 => off y (by omega) (by omega) (by omega))
      have T3 : zLy k3 T (upd a (17 + j) (nI q)) := L2.fr (fun y x1 x2 => F3.2 y (by omega))
      have R3 := T3.rw
      rw [x3] at R3
      have LL := fun (Q : Option Value → zX → Prop) => l_D_movesIf (z := z) (s := nI j) (w := nI q) (v3 := 0) (v4 := a (17 + j)) (Q := Q) hg gb (upd_n (by omega)) D3 S3 Y3.rw R3 (gN a 3) 0 zU zU (by omega)
      have LL' := LL Q
      rw [show mxS a (upd a (17 + j) (nI q)) 0 = 0 from rfl, show nI 0 = (0 : Int32) from rfl] at LL'
      simp only [e43_53, e43_54, e43_56, e43_57]
      rw [LL']
      rw [fmA_4 hg gb, x3] at hQ
      refine hQ k3 (((F1.mono (fun j h => by unfold zWr; omega)).tr (F2.mono (fun j h => by unfold zWr; omega))).tr (F3.mono (fun j h => by unfold zWr; omega))) ⟨⟨hPT, D3, S3, W2.ex C2 (fun y x1 x2 => F3.2 y (by omega)), ?_, ?_⟩, Y3⟩
      · obtain ⟨c, s, l, t, x1, x2⟩ := Y3; exact ⟨c, s, l, t, x1⟩
      · obtain ⟨c, s, l, t, x1, x2⟩ := T3; exact ⟨c, s, l, t, x1⟩
    · rw [if_pos h1, if_neg h2] at hQ
      rw [Bool.not_eq_true] at h2
      simp only [e43_0, e43_1, e43_2, e43_3, e43_6, e43_7, e43_8, e43_11, e43_12, e43_13, e43_14, e43_17, e43_20, e43_21, e43_22, e43_24, e43_25, e43_28, e43_31, e43_32, e43_33, e43_34, e43_35, e43_36, e43_39, e43_42, e43_43, e43_46, e43_49, e43_50, e43_52, e43_53, e43_54, e43_56, e43_57, e43_61, e43_62, e43_65, e43_68, e43_71, e43_72, e43_75, e43_77, e43_80, e43_82, e43_83, e43_86, e43_88, e43_91, e43_93, e43_95, e43_97, e43_99, e43_100, e43_101, e43_102, e43_105, e43_107, e43_109, e43_110, e43_111, e43_112, e43_115, e43_118, e43_119, e43_121, e43_124, e43_127, e43_129, zgF, zgA, zgR, zisO, zpush, zopt_some, ↓reduceIte, List.getElem?_cons_succ, List.getElem?_cons_zero, beq_self_eq_true, true_and, and_true, Bool.true_and, Bool.and_true, Bool.false_and, Bool.and_false, nI_1, not_true_eq_false, not_false_eq_true, vp_narI, c1, h1, h2, Bool.false_eq_true, hD', (show ¬ (-2 : Int32) = 0 by decide)]
      exact hQ h zFr.rf hK
  · rw [if_neg h1] at hQ
    rw [Bool.not_eq_true] at h1
    simp only [e43_0, e43_1, e43_2, e43_3, e43_6, e43_7, e43_8, e43_11, e43_12, e43_13, e43_14, e43_17, e43_20, e43_21, e43_22, e43_24, e43_25, e43_28, e43_31, e43_32, e43_33, e43_34, e43_35, e43_36, e43_39, e43_42, e43_43, e43_46, e43_49, e43_50, e43_52, e43_53, e43_54, e43_56, e43_57, e43_61, e43_62, e43_65, e43_68, e43_71, e43_72, e43_75, e43_77, e43_80, e43_82, e43_83, e43_86, e43_88, e43_91, e43_93, e43_95, e43_97, e43_99, e43_100, e43_101, e43_102, e43_105, e43_107, e43_109, e43_110, e43_111, e43_112, e43_115, e43_118, e43_119, e43_121, e43_124, e43_127, e43_129, zgF, zgA, zgR, zisO, zpush, zopt_some, ↓reduceIte, List.getElem?_cons_succ, List.getElem?_cons_zero, beq_self_eq_true, true_and, and_true, Bool.true_and, Bool.and_true, Bool.false_and, Bool.and_false, nI_1, not_true_eq_false, not_false_eq_true, vp_narI, c1, h1, Bool.false_eq_true, hD', (show ¬ (-1 : Int32) = 0 by decide)]
    exact hQ h zFr.rf hK
end ZC
end
