/-! undo, save, restore -/
section
set_option maxRecDepth 100000
section ZC
variable {h : List zC} {z : Nat × (Nat × (Nat → Int32))} {a : Nat → Int32} {Q : Option Value → zX → Prop} {n l : Nat} {H S : Nat → Nat → Int32} {sv f : Nat → Int32}
theorem c_D_undo (hg : zG a) (hK : zCl h a n H sv S l f) (h0 : n = 0 → Q (some (.int (-5))) (h, z))
    (hQ : 0 < n → ∀ h' : List zC, zFr (fun j => j < 108) h h' → zG (H (n - 1)) → zCl h' (H (n - 1)) (n - 1) H sv S l f → Q (some (.int (nI (n - 1)))) (h', z)) : Ev 45 0 [.ref 0] [] (h, z) Q := by
  obtain ⟨⟨P, T, hK⟩, hH, hL, hP⟩ := hK
  have D0 : h[0]? = some (zob 5 [.ref 1, .ref 10, .ref 75, .ref 76, .ref 77, .ref 80, .ref P, .ref T]) := hK.1.2.1
  obtain ⟨o, ⟨x0, -, -, hn6, -⟩, -⟩ := id hH
  by_cases hn : n = 0
  · subst hn
    have e0 : ¬ (0 : Int32) < nI 0 := by decide
    simp only [e45_0, e45_1, e45_4, e45_7, e45_10, e45_12, e45_13, e45_14, e45_17, e45_18, e45_21, e45_24, e45_25, e45_26, e45_29, e45_32, e45_33, e45_36, e45_39, zgF, zgA, zgR, zisO, zpush, zopt_some, ↓reduceIte, List.getElem?_cons_succ, List.getElem?_cons_zero, beq_self_eq_true, true_and, and_true, Bool.true_and, Bool.and_true, Bool.false_and, Bool.and_false, nI_1, not_true_eq_false, not_false_eq_true, vp_narI, D0, x0, e0]
    exact h0 rfl
  · have hn' : 0 < n := by omega
    have hQ := hQ hn'
    have e0 : (0 : Int32) < nI n := nI_lt (a := 0) hn' (by omega)
    simp only [e45_0, e45_1, e45_4, e45_7, e45_10, e45_12, e45_13, e45_14, e45_17, e45_18, e45_21, e45_24, e45_25, e45_26, e45_29, e45_32, e45_33, e45_36, e45_39, zgF, zgA, zgR, zisO, zpush, zopt_some, ↓reduceIte, List.getElem?_cons_succ, List.getElem?_cons_zero, beq_self_eq_true, true_and, and_true, Bool.true_and, Bool.and_true, Bool.false_and, Bool.and_false, nI_1, not_true_eq_false, not_false_eq_true, vp_narI, D0, x0, e0]
    refine c_H_takeLatest (k := 0) hn' hK.1.2.2.1.ty hH (fun h1 F1 H1 S1 G1 => ?_)
    have D1 : h1[0]? = some (zob 5 [.ref 1, .ref 10, .ref 75, .ref 76, .ref 77, .ref 80, .ref P, .ref T]) := F1.at D0 (by omega)
    obtain ⟨hPT, -, -, ⟨ln, dr, hW, hC⟩, ⟨cf, sf, lf, t, hL1⟩, ⟨cf', sf', lf', t', hT⟩⟩ := hK.1
    have pt : (P = 82 ∧ T = 86) ∨ (P = 86 ∧ T = 82) := hPT
    have K1 : zKp h1 P T (H (n - 1)) := ⟨hPT, D1, S1, hW.ex hC (fun y x1 x2 => F1.2 y (by omega)), hL1.ex (fun y x1 x2 => F1.2 y (by omega)), hT.ex (fun y x1 x2 => F1.2 y (by omega))⟩
    simp only [e45_0, e45_1, e45_4, e45_7, e45_10, e45_12, e45_13, e45_14, e45_17, e45_18, e45_21, e45_24, e45_25, e45_26, e45_29, e45_32, e45_33, e45_36, e45_39, zgF, zgA, zgR, zisO, zpush, zopt_some, ↓reduceIte, List.getElem?_cons_succ, List.getElem?_cons_zero, beq_self_eq_true, true_and, and_true, Bool.true_and, Bool.and_true, Bool.false_and, Bool.and_false, nI_1, not_true_eq_false, not_false_eq_true, vp_narI, D1]
    refine c_D_layP G1 K1 (fun h2 F2 K2 => ?_)
    have D2 : h2[0]? = some (zob 5 [.ref 1, .ref 10, .ref 75, .ref 76, .ref 77, .ref 80, .ref P, .ref T]) := K2.1.2.1
    have H2 := H1.fr (h' := h2) (fun y x1 x2 => F2.2 y (by unfold zWr; omega))
    obtain ⟨o2, ⟨y0, -⟩, -⟩ := id H2
    simp only [e45_0, e45_1, e45_4, e45_7, e45_10, e45_12, e45_13, e45_14, e45_17, e45_18, e45_21, e45_24, e45_25, e45_26, e45_29, e45_32, e45_33, e45_36, e45_39, zgF, zgA, zgR, zisO, zpush, zopt_some, ↓reduceIte, List.getElem?_cons_succ, List.getElem?_cons_zero, beq_self_eq_true, true_and, and_true, Bool.true_and, Bool.and_true, Bool.false_and, Bool.and_false, nI_1, not_true_eq_false, not_false_eq_true, vp_narI, D2, y0]
    refine hQ h2 ((F1.mono (fun j hj => by omega)).tr (F2.mono (fun j hj => by unfold zWr at hj; omega))) G1 ⟨⟨P, T, K2⟩, H2, hL.fr (fun y hy => (F2.2 y (by unfold zWr; omega)).trans (F1.2 y (by omega))), hP.fr (fun y x1 x2 => (F2.2 y (by unfold zWr; omega)).trans (F1.2 y (by omega)))⟩
theorem zin2 {s : Int32} : (zinb s 2 = true → (s = 0 ∨ s = 1)) ∧ (zinb s 2 = false → s < 0 ∨ (¬ s < 0 ∧ ¬ s < 2)) := by
  refine ⟨fun h => ?_, fun h => (zinb_pm (v := 2) (n := 2) rfl (by decide)).2 h⟩
  obtain ⟨k, hk, rfl⟩ := zinb_ex h (by decide)
  rcases (show k = 0 ∨ k = 1 by omega) with rfl | rfl
  · exact Or.inl rfl
  · exact Or.inr rfl
end ZC
end
