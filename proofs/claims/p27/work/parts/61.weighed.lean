/-! the law's isWeighed and isDown -/
section
set_option maxRecDepth 100000
section ZC
variable {h : List zC} {z : Nat × (Nat × (Nat → Int32))} {a : Nat → Int32} {Q : Option Value → zX → Prop} {n l : Nat} {H S : Nat → Nat → Int32} {sv f : Nat → Int32}
theorem fm_k {b : Nat → Int32} (hb : zG b) (hab : asc b) (e2 : b 2 = a 2) : zG (fmA a b) ∧ asc (fmA a b) ∧ gN (fmA a b) 2 = gN a 2 := by
  obtain ⟨h1, h2⟩ := fmA_ok (a0 := a) hb
  refine ⟨h1, asc_m hb hab h2, ?_⟩
  unfold gN
  rw [h2 2 (by decide) (by decide), e2]
theorem c_isWeighed {s w : Nat} (hg : zG a) (ha : asc a) (hK : zCl h a n H sv S l f) (hs : s < gN a 2) (hw : w ≤ 16)
    (hQ : ∀ (h' : List zC) (a' : Nat → Int32) (n' : Nat) (H' : Nat → Nat → Int32), h'.length = h.length → zG a' → asc a' → gN a' 2 = gN a 2 → zCl h' a' n' H' sv S l f → Q (some (.int 1)) (h', z)) :
    Ev 66 0 [.ref 0, .int (nI s), .int (nI w), zU, zU, zU] [] (h, z) Q := by
  have b2 := hg.2.2.1.2
  have b3 := hg.2.2.2.1.2
  have o0 := hK.o
  obtain ⟨⟨P, T, K⟩, -⟩ := id hK
  have cO := fun (s w : Int32) (Q : Option Value → zX → Prop) => c_D_ofServer (s := s) (w := w) (Q := Q) (z := z) hg K
  have e := chW_i hg hs hw
  have hb := zG_weigh hg (s := s) (r := w) (by omega) hw
  have hab : asc (upd a (17 + s) (nI w)) := asc_of ha (upd_n (by omega)) (fun k hk => upd_n (by omega))
  have hsm : sam a (upd a (17 + s) (nI w)) := sam_of hg (upd_n (by omega)) (upd_n (by omega)) (fun k hk => upd_n (by omega)) (fun k hk => upd_n (by omega))
  obtain ⟨g1, g2, g3⟩ := fm_k (a := a) hb hab (upd_n (by omega))
  obtain ⟨w1, w2, -⟩ := zG_w hg hs
  have q1 := qO_1 hg hs
  rw [w1] at q1
  simp only [e66_0, e66_1, e66_2, e66_3, e66_6, e66_7, e66_8, e66_9, e66_10, zpush, zopt_some, ↓reduceIte, List.getElem?_cons_succ, List.getElem?_cons_zero, beq_self_eq_true, true_and, and_true, Bool.true_and, Bool.and_true, Bool.false_and, Bool.and_false, nI_1, not_true_eq_false, not_false_eq_true, vp_narI, o0, cO, q1]
  refine c_D_movesIf hg K (fun h1 F1 K1 => ?_)
  have C1 := hK.ko F1 K1
  have o1 := C1.o
  simp only [e66_13, e66_15, e66_16, e66_17, e66_18, zpush, zopt_some, ↓reduceIte, List.getElem?_cons_succ, List.getElem?_cons_zero, beq_self_eq_true, true_and, and_true, Bool.true_and, Bool.and_true, Bool.false_and, Bool.and_false, nI_1, not_true_eq_false, not_false_eq_true, vp_narI, e, o1]
  refine c_D_weigh hg C1 (fun h2 F2 C2 => ?_)
  rw [e] at C2
  have C2 : zCl h2 (fmA a (upd a (17 + s) (nI w))) (recN (fmA a (upd a (17 + s) (nI w)) 4) n) (recH (fmA a (upd a (17 + s) (nI w)) 4) n H a) sv S l f := C2
  have o2 := C2.o
  have cC := fun (w : Int32) (Q : Option Value → zX → Prop) => c_D_count (w := w) (Q := Q) (z := z) g1 C2
  have hl : h2.length = h.length := F2.1.trans F1.1
  have fin := hQ h2 _ _ _ hl g1 g2 g3 C2
  have c2 := fun hM (Q : Option Value → zX → Prop) => c_areTo (Q := Q) (z := z) (s := s) (W := 2) (w := 2) rfl g1 C2 (by omega) (by decide) hM
  have c1 := fun hM (Q : Option Value → zX → Prop) => c_areTo (Q := Q) (z := z) (s := s) (W := 1) (w := 1) rfl g1 C2 (by omega) (by decide) hM
  have x1 : ¬ (1 : Int32) = 0 := by decide
  rcases Nat.lt_trichotomy w (gN a (17 + s)) with hlt | heq | hgt
  · have c1 := c1 (mv_dn hg hb (by omega) hab hsm (fun o => rz_fall hg hs hw (by omega)))
    have y1 : ¬ nI w = nI (gN a (17 + s)) := fun q => absurd ((nI_eq (by omega) (by omega)).mp q) (by omega)
    have y2 : nI w < nI (gN a (17 + s)) := nI_lt hlt (by omega)
    have y3 : ¬ nI (gN a (17 + s)) < nI w := nI_nlt (by omega) (by omega)
    simp only [e66_21, e66_23, e66_26, e66_27, e66_28, e66_31, e66_33, e66_36, e66_37, e66_38, e66_41, e66_43, e66_46, e66_47, e66_50, e66_51, e66_53, e66_55, e66_58, e66_59, e66_60, e66_63, e66_64, e66_65, e66_66, e66_69, e66_72, e66_73, e66_74, e66_77, e66_78, e66_79, e66_80, e66_83, e66_86, e66_87, e66_90, e66_91, e66_93, e66_95, zpush, zopt_some, ↓reduceIte, List.getElem?_cons_succ, List.getElem?_cons_zero, beq_self_eq_true, true_and, and_true, Bool.true_and, Bool.and_true, Bool.false_and, Bool.and_false, nI_1, not_true_eq_false, not_false_eq_true, vp_narI, eq_self, e, o2, cC, qC_4, y1, y2, y3, c1, x1, z1_and]
    exact fin
  · have c1 := c1 (mv_dn hg hb (by omega) hab hsm (fun o => rz_fall hg hs hw (by omega)))
    have c2 := c2 (mv_up hg hb (by omega) hab hsm (fun o => rz_weigh hg hs hw (by omega)))
    have e0 : upd a (17 + s) (nI w) = a := by
      rw [heq, ← w1]
      funext i
      by_cases hi : i = 17 + s
      · rw [hi, upd_s]
      · rw [upd_n hi]
    have y0 : fmA a (upd a (17 + s) (nI w)) 4 = 0 := by
      rw [fmA_4 hg hb, e0, mx_id hg]
      rfl
    have y1 : nI w = nI (gN a (17 + s)) := by rw [heq]
    have y2 : ¬ nI (gN a (17 + s)) < nI (gN a (17 + s)) := nI_nlt (by omega) (by omega)
    have y3 : (chW a (nI s) (nI (gN a (17 + s)))).1 = 0 := by rw [← heq, e]; exact y0
    have y5 : fmA a (upd a (17 + s) (nI (gN a (17 + s)))) 4 = 0 := by rw [← heq]; exact y0
    simp only [e66_21, e66_23, e66_26, e66_27, e66_28, e66_31, e66_33, e66_36, e66_37, e66_38, e66_41, e66_43, e66_46, e66_47, e66_50, e66_51, e66_53, e66_55, e66_58, e66_59, e66_60, e66_63, e66_64, e66_65, e66_66, e66_69, e66_72, e66_73, e66_74, e66_77, e66_78, e66_79, e66_80, e66_83, e66_86, e66_87, e66_90, e66_91, e66_93, e66_95, zpush, zopt_some, ↓reduceIte, List.getElem?_cons_succ, List.getElem?_cons_zero, beq_self_eq_true, true_and, and_true, Bool.true_and, Bool.and_true, Bool.false_and, Bool.and_false, nI_1, not_true_eq_false, not_false_eq_true, vp_narI, eq_self, e, o2, cC, qC_4, y0, y1, y2, y3, y5, c1, c2, x1, z1_and]
    exact fin
  · have c2 := c2 (mv_up hg hb (by omega) hab hsm (fun o => rz_weigh hg hs hw (by omega)))
    have y1 : ¬ nI w = nI (gN a (17 + s)) := fun q => absurd ((nI_eq (by omega) (by omega)).mp q) (by omega)
    have y2 : ¬ nI w < nI (gN a (17 + s)) := nI_nlt (by omega) (by omega)
    have y3 : nI (gN a (17 + s)) < nI w := nI_lt hgt (by omega)
    simp only [e66_21, e66_23, e66_26, e66_27, e66_28, e66_31, e66_33, e66_36, e66_37, e66_38, e66_41, e66_43, e66_46, e66_47, e66_50, e66_51, e66_53, e66_55, e66_58, e66_59, e66_60, e66_63, e66_64, e66_65, e66_66, e66_69, e66_72, e66_73, e66_74, e66_77, e66_78, e66_79, e66_80, e66_83, e66_86, e66_87, e66_90, e66_91, e66_93, e66_95, zpush, zopt_some, ↓reduceIte, List.getElem?_cons_succ, List.getElem?_cons_zero, beq_self_eq_true, true_and, and_true, Bool.true_and, Bool.and_true, Bool.false_and, Bool.and_false, nI_1, not_true_eq_false, not_false_eq_true, vp_narI, eq_self, e, o2, cC, qC_4, y1, y2, y3, c2, x1, z1_and]
    exact fin
end ZC
end
