/-! inserting and removing -/
section
set_option maxRecDepth 100000
theorem nI_dec {r : Nat} : nI (r + 1) + (-1) = nI r := by rw [← nI_1, Int32.add_assoc]; exact Int32.add_zero _
theorem nI_sub1 {r : Nat} : nI (r + 1) - 1 = nI r := by rw [← nI_1, Int32.add_sub_cancel]
/-- rows after r are moved one up -/
def shf (r n : Nat) (f : Nat → Int32) : Nat → Int32 := fun i => if r < i ∧ i ≤ n then f (i - 1) else f i
theorem shf_top (n : Nat) (f : Nat → Int32) : shf n n f = f := by
  funext i; unfold shf; rw [if_neg (by omega)]
theorem shf_lo {r n i : Nat} {f : Nat → Int32} (h : i ≤ r) : shf r n f i = f i := by unfold shf; rw [if_neg (by omega)]
theorem shf_st {r n : Nat} (h : r + 1 ≤ n) (f : Nat → Int32) : upd (shf (r + 1) n f) (r + 1) (f r) = shf r n f := by
  funext i
  unfold upd shf
  by_cases h1 : i = r + 1
  · subst h1; rw [if_pos rfl, if_pos (by omega)]; rfl
  · rw [if_neg h1]
    by_cases h2 : r + 1 < i ∧ i ≤ n
    · rw [if_pos h2, if_pos (by omega)]
    · rw [if_neg h2, if_neg (by omega)]
def ipos (g : Nat → Int32) (o : Int32) : Nat → Nat
  | 0 => 0
  | r + 1 => if g r ≤ o then r + 1 else ipos g o r
theorem ipos_le (g : Nat → Int32) (o : Int32) : ∀ r, ipos g o r ≤ r
  | 0 => Nat.le_refl _
  | r + 1 => by
    unfold ipos
    split
    · exact Nat.le_refl _
    · exact Nat.le_succ_of_le (ipos_le g o r)
theorem ipos_cong {g g' : Nat → Int32} {o : Int32} : ∀ r, (∀ i, i < r → g i = g' i) → ipos g o r = ipos g' o r
  | 0, _ => rfl
  | r + 1, h => by
    unfold ipos
    rw [h r (by omega), ipos_cong r (fun i hi => h i (by omega))]
def insF (p n : Nat) (o : Int32) (f : Nat → Int32) : Nat → Int32 := upd (shf p n f) p o
def insA (a : Nat → Int32) (o : Int32) : Nat → Int32 := fun i =>
  let n := gN a 3
  let p := ipos (fun i => a (41 + i)) o n
  if i = 3 then nI (n + 1) else if 41 ≤ i ∧ i < 81 then insF p n o (fun i => a (41 + i)) (i - 41) else if 81 ≤ i ∧ i < 121 then insF p n (-6) (fun i => a (81 + i)) (i - 81) else a i
/-- rows after r come down by one, up to n -/
def dwn (p r : Nat) (f : Nat → Int32) : Nat → Int32 := fun i => if p ≤ i ∧ i < r then f (i + 1) else f i
theorem dwn_0 (p : Nat) (f : Nat → Int32) : dwn p p f = f := by funext i; unfold dwn; rw [if_neg (by omega)]
theorem dwn_hi {p r i : Nat} {f : Nat → Int32} (h : r ≤ i) : dwn p r f i = f i := by unfold dwn; rw [if_neg (by omega)]
theorem dwn_st {p r : Nat} (h : p ≤ r) (f : Nat → Int32) : upd (dwn p r f) r (f (r + 1)) = dwn p (r + 1) f := by
  funext i
  unfold upd dwn
  by_cases h1 : i = r
  · subst h1; rw [if_pos rfl, if_pos (by omega)]
  · rw [if_neg h1]
    by_cases h2 : p ≤ i ∧ i < r
    · rw [if_pos h2, if_pos (by omega)]
    · rw [if_neg h2, if_neg (by omega)]
def remA (a : Nat → Int32) (p : Nat) : Nat → Int32 := fun i =>
  let n := gN a 3
  if i = 3 then nI (n - 1) else if 41 ≤ i ∧ i < 81 then dwn p (n - 1) (fun i => a (41 + i)) (i - 41) else if 81 ≤ i ∧ i < 121 then dwn p (n - 1) (fun i => a (81 + i)) (i - 81) else a i
section ZC
variable {h : List zC} {z : Nat × (Nat × (Nat → Int32))} {k : Nat} {a : Nat → Int32} {Q : Option Value → zX → Prop} {v0 v1 v2 v3 v4 : Int32} {f1 f2 f3 f4 f5 f6 f7 f8 : Nat → Int32}
theorem c_S_insert_end {n p : Nat} {o : Int32} (hn : n < 40) (hp : p ≤ n) (h : List zC) (g4 g5 : Nat → Int32) (hX : zSx h k v0 v1 v2 (nI n) v4 f1 f2 f3 g4 g5 f6 f7 f8)
    (hQ : ∀ h' : List zC, zFr (fun j => k ≤ j ∧ j ≤ k + 8) h h' → zSx h' k v0 v1 v2 (nI (n + 1)) v4 f1 f2 f3 (upd g4 p o) (upd g5 p (-6)) f6 f7 f8 → Q (some (.int (nI p))) (h', z)) :
    Ev 20 55 [.ref k, .int o, .int (nI p)] [] (h, z) Q := by
  have e1 : zinb (nI p) 40 = true := zinb_nI (by omega) (by decide)
  have e2 : (nI p).toNatClampNeg = p := nI_clamp (by omega)
  simp only [e20_0, e20_1, e20_4, e20_6, e20_9, e20_10, e20_13, e20_14, e20_15, e20_16, e20_17, e20_18, e20_21, e20_22, e20_25, e20_26, e20_27, e20_30, e20_31, e20_32, e20_33, e20_34, e20_35, e20_36, e20_39, e20_40, e20_41, e20_44, e20_45, e20_46, e20_47, e20_48, e20_49, e20_52, e20_55, e20_56, e20_59, e20_60, e20_61, e20_62, e20_63, e20_66, e20_67, e20_69, e20_70, e20_71, e20_72, e20_75, e20_76, e20_77, e20_80, e20_81, zgF, zgA, zgR, zisO, zpush, zopt_some, ↓reduceIte, List.getElem?_cons_succ, List.getElem?_cons_zero, beq_self_eq_true, true_and, and_true, Bool.true_and, Bool.and_true, Bool.false_and, Bool.and_false, nI_1, not_true_eq_false, not_false_eq_true, vp_narI, hX.1, hX.2.2.2.2.1, e1, e2]
  have F1 : zFr (fun j => k ≤ j ∧ j ≤ k + 8) h (h.set (k + 4) (zar .int 40 (upd g4 p o))) := zFr.set ⟨by omega, by omega⟩
  have X1 := hX.a4 (upd g4 p o)
  generalize h.set (k + 4) (zar .int 40 (upd g4 p o)) = h1 at F1 X1 ⊢
  simp only [e20_0, e20_1, e20_4, e20_6, e20_9, e20_10, e20_13, e20_14, e20_15, e20_16, e20_17, e20_18, e20_21, e20_22, e20_25, e20_26, e20_27, e20_30, e20_31, e20_32, e20_33, e20_34, e20_35, e20_36, e20_39, e20_40, e20_41, e20_44, e20_45, e20_46, e20_47, e20_48, e20_49, e20_52, e20_55, e20_56, e20_59, e20_60, e20_61, e20_62, e20_63, e20_66, e20_67, e20_69, e20_70, e20_71, e20_72, e20_75, e20_76, e20_77, e20_80, e20_81, zgF, zgA, zgR, zisO, zpush, zopt_some, ↓reduceIte, List.getElem?_cons_succ, List.getElem?_cons_zero, beq_self_eq_true, true_and, and_true, Bool.true_and, Bool.and_true, Bool.false_and, Bool.and_false, nI_1, not_true_eq_false, not_false_eq_true, vp_narI, X1.1, X1.2.2.2.2.2.1, e1, e2]
  have F2 := F1.tr (zFr.set (S := fun j => k ≤ j ∧ j ≤ k + 8) (h := h1) (k := k + 5) (c := zar .int 40 (upd g5 p (-6))) ⟨by omega, by omega⟩)
  have X2 := X1.a5 (upd g5 p (-6))
  generalize h1.set (k + 5) (zar .int 40 (upd g5 p (-6))) = h2 at F2 X2 ⊢
  simp only [e20_0, e20_1, e20_4, e20_6, e20_9, e20_10, e20_13, e20_14, e20_15, e20_16, e20_17, e20_18, e20_21, e20_22, e20_25, e20_26, e20_27, e20_30, e20_31, e20_32, e20_33, e20_34, e20_35, e20_36, e20_39, e20_40, e20_41, e20_44, e20_45, e20_46, e20_47, e20_48, e20_49, e20_52, e20_55, e20_56, e20_59, e20_60, e20_61, e20_62, e20_63, e20_66, e20_67, e20_69, e20_70, e20_71, e20_72, e20_75, e20_76, e20_77, e20_80, e20_81, zgF, zgA, zgR, zisO, zpush, zopt_some, ↓reduceIte, List.getElem?_cons_succ, List.getElem?_cons_zero, beq_self_eq_true, true_and, and_true, Bool.true_and, Bool.and_true, Bool.false_and, Bool.and_false, nI_1, not_true_eq_false, not_false_eq_true, vp_narI, X2.1, zpF, List.length_cons, List.length_nil, Nat.reduceAdd, Nat.reduceLT, and_self, List.set_cons_succ, List.set_cons_zero]
  exact hQ _ (F2.tr (zFr.set ⟨by omega, by omega⟩)) (X2.obj v0 v1 v2 (nI (n + 1)) v4)
theorem l_S_insert {n : Nat} {o : Int32} (hn : n < 40) (hQ : ∀ h' : List zC, zFr (fun j => k ≤ j ∧ j ≤ k + 8) h h' → zSx h' k v0 v1 v2 (nI (n + 1)) v4 f1 f2 f3 (insF (ipos f4 o n) n o f4) (insF (ipos f4 o n) n (-6) f5) f6 f7 f8 → Q (some (.int (nI (ipos f4 o n)))) (h', z)) :
    ∀ (r : Nat) (h' : List zC), r ≤ n → zFr (fun j => k ≤ j ∧ j ≤ k + 8) h h' → zSx h' k v0 v1 v2 (nI n) v4 f1 f2 f3 (shf r n f4) (shf r n f5) f6 f7 f8 → ipos f4 o n = ipos f4 o r →
    Ev 20 5 [.ref k, .int o, .int (nI r)] [] (h', z) Q := by
  intro r
  induction r with
  | zero =>
    intro h' hr hF hX hi
    have e0 : nI 0 ≤ 0 := by decide
    rw [e20_5]
    simp only [e20_0, e20_1, e20_4, e20_6, e20_9, e20_10, e20_13, e20_14, e20_15, e20_16, e20_17, e20_18, e20_21, e20_22, e20_25, e20_26, e20_27, e20_30, e20_31, e20_32, e20_33, e20_34, e20_35, e20_36, e20_39, e20_40, e20_41, e20_44, e20_45, e20_46, e20_47, e20_48, e20_49, e20_52, e20_56, e20_59, e20_60, e20_61, e20_62, e20_63, e20_66, e20_67, e20_69, e20_70, e20_71, e20_72, e20_75, e20_76, e20_77, e20_80, e20_81, zgF, zgA, zgR, zisO, zpush, zopt_some, ↓reduceIte, List.getElem?_cons_succ, List.getElem?_cons_zero, beq_self_eq_true, true_and, and_true, Bool.true_and, Bool.and_true, Bool.false_and, Bool.and_false, nI_1, not_true_eq_false, not_false_eq_true, vp_narI, e0]
    refine c_S_insert_end hn (by omega) h' _ _ hX (fun h2 F2 X2 => ?_)
    have e : ipos f4 o n = 0 := hi.trans rfl
    rw [e] at hQ
    exact hQ h2 (hF.tr F2) X2
  | succ r ih =>
    intro h' hr hF hX hi
    have e0 : ¬ nI (r + 1) ≤ 0 := nI_ge (a := 0) (show 0 < r + 1 by omega) (by omega)
    have e1 : zinb (nI r) 40 = true := zinb_nI (by omega) (by decide)
    have e2 : (nI r).toNatClampNeg = r := nI_clamp (by omega)
    have e3 : zinb (nI (r + 1)) 40 = true := zinb_nI (by omega) (by decide)
    have e4 : (nI (r + 1)).toNatClampNeg = r + 1 := nI_clamp (by omega)
    have e5 : shf (r + 1) n f4 r = f4 r := shf_lo (by omega)
    have e6 : shf (r + 1) n f5 r = f5 r := shf_lo (by omega)
    rw [e20_5]
    by_cases hc : f4 r ≤ o
    · simp only [e20_6, e20_9, e20_10, e20_13, e20_14, e20_15, e20_16, e20_17, e20_18, zgF, zgA, zgR, zisO, zpush, zopt_some, ↓reduceIte, List.getElem?_cons_succ, List.getElem?_cons_zero, beq_self_eq_true, true_and, and_true, Bool.true_and, Bool.and_true, Bool.false_and, Bool.and_false, nI_1, not_true_eq_false, not_false_eq_true, vp_narI, e0, hX.1, hX.2.2.2.2.1, nI_sub1, e1, e2, e5, hc]
      refine c_S_insert_end hn hr h' _ _ hX (fun h2 F2 X2 => ?_)
      have e : ipos f4 o n = r + 1 := hi.trans (by rw [ipos, if_pos hc])
      rw [e] at hQ
      exact hQ h2 (hF.tr F2) X2
    · have hi' : ipos f4 o n = ipos f4 o r := hi.trans (by rw [ipos, if_neg hc])
      simp only [e20_0, e20_1, e20_4, e20_6, e20_9, e20_10, e20_13, e20_14, e20_15, e20_16, e20_17, e20_18, e20_21, e20_22, e20_25, e20_26, e20_27, e20_30, e20_31, e20_32, e20_33, e20_34, e20_35, e20_36, e20_39, e20_40, e20_41, e20_44, e20_45, e20_46, e20_47, e20_48, e20_49, e20_52, e20_56, e20_59, e20_60, e20_61, e20_62, e20_63, e20_66, e20_67, e20_69, e20_70, e20_71, e20_72, e20_75, e20_76, e20_77, e20_80, e20_81, zgF, zgA, zgR, zisO, zpush, zopt_some, ↓reduceIte, List.getElem?_cons_succ, List.getElem?_cons_zero, beq_self_eq_true, true_and, and_true, Bool.true_and, Bool.and_true, Bool.false_and, Bool.and_false, nI_1, not_true_eq_false, not_false_eq_true, vp_narI, e0, hX.1, hX.2.2.2.2.1, nI_sub1, e1, e2, e3, e4, e5, hc, shf_st hr]
      have F1 := hF.tr (zFr.set (S := fun j => k ≤ j ∧ j ≤ k + 8) (h := h') (k := k + 4) (c := zar .int 40 (shf r n f4)) ⟨by omega, by omega⟩)
      have X1 := hX.a4 (shf r n f4)
      generalize h'.set (k + 4) (zar .int 40 (shf r n f4)) = h1 at F1 X1 ⊢
      simp only [e20_0, e20_1, e20_4, e20_6, e20_9, e20_10, e20_13, e20_14, e20_15, e20_16, e20_17, e20_18, e20_21, e20_22, e20_25, e20_26, e20_27, e20_30, e20_31, e20_32, e20_33, e20_34, e20_35, e20_36, e20_39, e20_40, e20_41, e20_44, e20_45, e20_46, e20_47, e20_48, e20_49, e20_52, e20_56, e20_59, e20_60, e20_61, e20_62, e20_63, e20_66, e20_67, e20_69, e20_70, e20_71, e20_72, e20_75, e20_76, e20_77, e20_80, e20_81, zgF, zgA, zgR, zisO, zpush, zopt_some, ↓reduceIte, List.getElem?_cons_succ, List.getElem?_cons_zero, beq_self_eq_true, true_and, and_true, Bool.true_and, Bool.and_true, Bool.false_and, Bool.and_false, nI_1, not_true_eq_false, not_false_eq_true, vp_narI, X1.1, X1.2.2.2.2.2.1, nI_sub1, e1, e2, e3, e4, e6, shf_st hr, nI_dec]
      exact ih _ (by omega) (F1.tr (zFr.set ⟨by omega, by omega⟩)) (X1.a5 (shf r n f5)) hi'
theorem insA_lo {o : Int32} {i : Nat} (h3 : i ≠ 3) (hi : i < 41 ∨ 121 ≤ i) : insA a o i = a i := by
  unfold insA; rw [if_neg h3, if_neg (by omega), if_neg (by omega)]
theorem insA_3 {o : Int32} : insA a o 3 = nI (gN a 3 + 1) := by unfold insA; rw [if_pos rfl]
theorem insA_o {o : Int32} {i : Nat} (hi : i < 40) : insA a o (41 + i) = insF (ipos (fun i => a (41 + i)) o (gN a 3)) (gN a 3) o (fun i => a (41 + i)) i := by
  unfold insA; rw [if_neg (by omega), if_pos (by omega), Nat.add_sub_cancel_left]
theorem insA_p {o : Int32} {i : Nat} (hi : i < 40) : insA a o (81 + i) = insF (ipos (fun i => a (41 + i)) o (gN a 3)) (gN a 3) (-6) (fun i => a (81 + i)) i := by
  unfold insA; rw [if_neg (by omega), if_neg (by omega), if_pos (by omega), Nat.add_sub_cancel_left]
theorem insF_cong {p n i : Nat} {o : Int32} {f g : Nat → Int32} (hp : p ≤ n) (h : ∀ i, i < n → f i = g i) (hi : i < n + 1) : insF p n o f i = insF p n o g i := by
  unfold insF upd shf
  by_cases h1 : i = p
  · rw [if_pos h1, if_pos h1]
  · rw [if_neg h1, if_neg h1]
    by_cases h2 : p < i ∧ i ≤ n
    · rw [if_pos h2, if_pos h2]; exact h _ (by omega)
    · rw [if_neg h2, if_neg h2]; exact h _ (by omega)
theorem insF_all {p n i : Nat} {o : Int32} {f : Nat → Int32} {P : Int32 → Prop} (hp : p ≤ n) (ho : P o) (h : ∀ i, i < n → P (f i)) (hi : i < n + 1) : P (insF p n o f i) := by
  unfold insF upd shf
  by_cases h1 : i = p
  · rw [if_pos h1]; exact ho
  · rw [if_neg h1]
    by_cases h2 : p < i ∧ i ≤ n
    · rw [if_pos h2]; exact h _ (by omega)
    · rw [if_neg h2]; exact h _ (by omega)
theorem gN_insA {o : Int32} {i : Nat} (h3 : i ≠ 3) (hi : i < 41) : gN (insA a o) i = gN a i := by unfold gN; rw [insA_lo h3 (Or.inl hi)]
theorem gN_insA3 {o : Int32} (h : gN a 3 < 40) : gN (insA a o) 3 = gN a 3 + 1 := by unfold gN; rw [insA_3]; exact nI_clamp (by have : (a 3).toNatClampNeg < 40 := h; show gN a 3 + 1 < 2 ^ 31; unfold gN; omega)
theorem zG_insA {o : Nat} (hg : zG a) (h40 : gN a 3 < 40) (ho : o ≤ 9999) : zG (insA a (nI o)) := by
  have e3 := gN_insA3 (o := nI o) h40
  have hp := ipos_le (fun i => a (41 + i)) (nI o) (gN a 3)
  obtain ⟨g0, g1, g2, g3, g4, g5, g6⟩ := hg
  unfold zG
  rw [insA_lo (i := 0) (by decide) (by decide), gN_insA (i := 0) (by decide) (by decide), insA_lo (i := 1) (by decide) (by decide), gN_insA (i := 1) (by decide) (by decide), insA_lo (i := 2) (by decide) (by decide), gN_insA (i := 2) (by decide) (by decide), insA_lo (i := 4) (by decide) (by decide), gN_insA (i := 4) (by decide) (by decide), e3, insA_3]
  refine ⟨g0, g1, g2, ⟨rfl, by omega⟩, g4, fun i hi => ?_, fun i hi => ?_⟩
  · have := g2.2
    rw [insA_lo (i := 5 + i) (by omega) (by omega), gN_insA (i := 5 + i) (by omega) (by omega), insA_lo (i := 17 + i) (by omega) (by omega), gN_insA (i := 17 + i) (by omega) (by omega), insA_lo (i := 29 + i) (by omega) (by omega)]
    exact g5 i hi
  · refine ⟨?_, ?_⟩
    · unfold gN
      rw [insA_o (by omega)]
      exact insF_all (P := fun x => x = nI x.toNatClampNeg ∧ x.toNatClampNeg ≤ 9999) hp (by rw [nI_clamp (by omega)]; exact ⟨rfl, ho⟩) (fun i hi => (g6 i hi).1) hi
    · rw [insA_p (by omega)]
      exact insF_all (P := fun x => x = -6 ∨ ∃ j, j < gN a 2 ∧ x = nI j) hp (Or.inl rfl) (fun i hi => (g6 i hi).2) hi
theorem c_S_insert {o : Int32} (hg : zG a) (h40 : gN a 3 < 40) (hS : zSt h k a) (hQ : ∀ h' : List zC, zFr (fun j => k ≤ j ∧ j ≤ k + 8) h h' → zSt h' k (insA a o) → Q (some (.int (nI (ipos (fun i => a (41 + i)) o (gN a 3))))) (h', z)) :
    Ev 20 0 [.ref k, .int o, zU] [] (h, z) Q := by
  obtain ⟨f1, f2, f3, f4, f5, f6, f7, f8, hX, hA⟩ := hS.x
  obtain ⟨q1, q2, q3, q4, q5, q6, q7, q8⟩ := hA
  obtain ⟨e3, b3⟩ := hg.2.2.2.1
  have hi : ipos f4 o (gN a 3) = ipos (fun i => a (41 + i)) o (gN a 3) := ipos_cong _ (fun i hi => q4 i hi)
  have hp := ipos_le (fun i => a (41 + i)) o (gN a 3)
  have b2 := hg.2.2.1.2
  simp only [e20_0, e20_1, e20_4, e20_6, e20_9, e20_10, e20_13, e20_14, e20_15, e20_16, e20_17, e20_18, e20_21, e20_22, e20_25, e20_26, e20_27, e20_30, e20_31, e20_32, e20_33, e20_34, e20_35, e20_36, e20_39, e20_40, e20_41, e20_44, e20_45, e20_46, e20_47, e20_48, e20_49, e20_52, e20_55, e20_56, e20_59, e20_60, e20_61, e20_62, e20_63, e20_66, e20_67, e20_69, e20_70, e20_71, e20_72, e20_75, e20_76, e20_77, e20_80, e20_81, zgF, zgA, zgR, zisO, zpush, zopt_some, ↓reduceIte, List.getElem?_cons_succ, List.getElem?_cons_zero, beq_self_eq_true, true_and, and_true, Bool.true_and, Bool.and_true, Bool.false_and, Bool.and_false, nI_1, not_true_eq_false, not_false_eq_true, vp_narI, hX.1]
  rw [e3] at hX ⊢
  refine l_S_insert (n := gN a 3) (k := k) (h := h) (f4 := f4) (f5 := f5) h40 (fun h' F' X' => ?_) (gN a 3) h (Nat.le_refl _) zFr.rf (by rw [shf_top, shf_top]; exact hX) rfl
  rw [hi] at X' ⊢
  refine hQ h' F' (zSx.st (f1 := f1) (f2 := f2) (f3 := f3) (f4 := insF (ipos (fun i => a (41 + i)) o (gN a 3)) (gN a 3) o f4) (f5 := insF (ipos (fun i => a (41 + i)) o (gN a 3)) (gN a 3) (-6) f5) (f6 := f6) (f7 := f7) (f8 := f8) ?_ ⟨?_, ?_, ?_, ?_, ?_, ?_, ?_, ?_⟩)
  · rw [insA_lo (i := 0) (by decide) (by decide), insA_lo (i := 1) (by decide) (by decide), insA_lo (i := 2) (by decide) (by decide), insA_lo (i := 4) (by decide) (by decide), insA_3]
    exact X'
  · intro i hi; rw [gN_insA (by decide) (by decide)] at hi; rw [insA_lo (by omega) (by omega)]; exact q1 i hi
  · intro i hi; rw [gN_insA (by decide) (by decide)] at hi; rw [insA_lo (by omega) (by omega)]; exact q2 i hi
  · intro i hi; rw [gN_insA (by decide) (by decide)] at hi; rw [insA_lo (by omega) (by omega)]; exact q3 i hi
  · intro i hi; rw [gN_insA3 h40] at hi; rw [insA_o (by omega)]; exact insF_cong hp q4 hi
  · intro i hi; rw [gN_insA3 h40] at hi; rw [insA_p (by omega)]; exact insF_cong hp q5 hi
  · intro i hi; rw [gN_insA (by decide) (by decide)] at hi; rw [insA_lo (by omega) (by omega)]; exact q6 i hi
  · intro i hi; rw [gN_insA (by decide) (by decide)] at hi; rw [insA_lo (by omega) (by omega)]; exact q7 i hi
  · intro i hi; rw [gN_insA (by decide) (by decide)] at hi; rw [insA_lo (by omega) (by omega)]; exact q8 i hi
theorem remA_lo {p i : Nat} (h3 : i ≠ 3) (hi : i < 41 ∨ 121 ≤ i) : remA a p i = a i := by
  unfold remA; rw [if_neg h3, if_neg (by omega), if_neg (by omega)]
theorem remA_3 {p : Nat} : remA a p 3 = nI (gN a 3 - 1) := by unfold remA; rw [if_pos rfl]
theorem remA_o {p i : Nat} (hi : i < 40) : remA a p (41 + i) = dwn p (gN a 3 - 1) (fun i => a (41 + i)) i := by
  unfold remA; rw [if_neg (by omega), if_pos (by omega), Nat.add_sub_cancel_left]
theorem remA_p {p i : Nat} (hi : i < 40) : remA a p (81 + i) = dwn p (gN a 3 - 1) (fun i => a (81 + i)) i := by
  unfold remA; rw [if_neg (by omega), if_neg (by omega), if_pos (by omega), Nat.add_sub_cancel_left]
theorem dwn_cong {p n i : Nat} {f g : Nat → Int32} (h : ∀ i, i < n → f i = g i) (hi : i < n - 1) : dwn p (n - 1) f i = dwn p (n - 1) g i := by
  unfold dwn
  by_cases h2 : p ≤ i ∧ i < n - 1
  · rw [if_pos h2, if_pos h2]; exact h _ (by omega)
  · rw [if_neg h2, if_neg h2]; exact h _ (by omega)
theorem dwn_all {p n i : Nat} {f : Nat → Int32} {P : Int32 → Prop} (h : ∀ i, i < n → P (f i)) (hi : i < n - 1) : P (dwn p (n - 1) f i) := by
  unfold dwn
  by_cases h2 : p ≤ i ∧ i < n - 1
  · rw [if_pos h2]; exact h _ (by omega)
  · rw [if_neg h2]; exact h _ (by omega)
theorem gN_remA {p i : Nat} (h3 : i ≠ 3) (hi : i < 41) : gN (remA a p) i = gN a i := by unfold gN; rw [remA_lo h3 (Or.inl hi)]
theorem gN_remA3 {p : Nat} (h : gN a 3 ≤ 40) : gN (remA a p) 3 = gN a 3 - 1 := by unfold gN; rw [remA_3]; exact nI_clamp (by have : (a 3).toNatClampNeg ≤ 40 := h; show gN a 3 - 1 < 2 ^ 31; unfold gN; omega)
theorem zG_remA {p : Nat} (hg : zG a) : zG (remA a p) := by
  have h40 := hg.2.2.2.1.2
  have e3 := gN_remA3 (p := p) h40
  obtain ⟨g0, g1, g2, g3, g4, g5, g6⟩ := hg
  unfold zG
  rw [remA_lo (i := 0) (by decide) (by decide), gN_remA (i := 0) (by decide) (by decide), remA_lo (i := 1) (by decide) (by decide), gN_remA (i := 1) (by decide) (by decide), remA_lo (i := 2) (by decide) (by decide), gN_remA (i := 2) (by decide) (by decide), remA_lo (i := 4) (by decide) (by decide), gN_remA (i := 4) (by decide) (by decide), e3, remA_3]
  refine ⟨g0, g1, g2, ⟨rfl, by omega⟩, g4, fun i hi => ?_, fun i hi => ?_⟩
  · have := g2.2
    rw [remA_lo (i := 5 + i) (by omega) (by omega), gN_remA (i := 5 + i) (by omega) (by omega), remA_lo (i := 17 + i) (by omega) (by omega), gN_remA (i := 17 + i) (by omega) (by omega), remA_lo (i := 29 + i) (by omega) (by omega)]
    exact g5 i hi
  · refine ⟨?_, ?_⟩
    · unfold gN
      rw [remA_o (by omega)]
      exact dwn_all (P := fun x => x = nI x.toNatClampNeg ∧ x.toNatClampNeg ≤ 9999) (fun i hi => (g6 i hi).1) hi
    · rw [remA_p (by omega)]
      exact dwn_all (P := fun x => x = -6 ∨ ∃ j, j < gN a 2 ∧ x = nI j) (fun i hi => (g6 i hi).2) hi
end ZC
end
