/-! undo, save, restore -/
section
set_option maxRecDepth 100000
section ZC
variable {h : List zC} {z : Nat × (Nat × (Nat → Int32))} {a : Nat → Int32} {Q : Option Value → zX → Prop} {n l : Nat} {H S : Nat → Nat → Int32} {sv f : Nat → Int32}
theorem c_D_undo (hg : zG a) (hK : zCl h a n H sv S l f) (h0 : n = 0 → Q (some (.int (-5))) (h, z))
    (hQ : 0 < n → ∀ h' : List zC, zFr (fun j => j < 108) h h' → zG (H (n - 1)) → zCl h' (H (n - 1)) (n - 1) H sv S l f → Q (some (.int (nI (n - 1)))) (h', z)) : Ev 61 0 [.ref 0] [] (h, z) Q := by
  obtain ⟨⟨P, T, hK⟩, hH, hL, hP⟩ := hK
  have D0 : h[0]? = some (zob 5 [.ref 1, .ref 10, .ref 75, .ref 76, .ref 77, .ref 80, .ref P, .ref T]) := hK.1.2.1
  obtain ⟨o, ⟨x0, -, -, hn6, -⟩, -⟩ := id hH
  by_cases hn : n = 0
  · subst hn
    have e0 : ¬ (0 : Int32) < nI 0 := by decide
    simp only [e61_0, e61_1, e61_4, e61_7, e61_10, e61_12, e61_13, e61_14, e61_17, e61_18, e61_21, e61_24, e61_25, e61_26, e61_29, e61_32, e61_33, e61_36, e61_39, zgF, zgA, zgR, zisO, zpush, zopt_some, ↓reduceIte, List.getElem?_cons_succ, List.getElem?_cons_zero, beq_self_eq_true, true_and, and_true, Bool.true_and, Bool.and_true, Bool.false_and, Bool.and_false, nI_1, not_true_eq_false, not_false_eq_true, vp_narI, D0, x0, e0]
    exact h0 rfl
  · have hn' : 0 < n := by omega
    have hQ := hQ hn'
    have e0 : (0 : Int32) < nI n := nI_lt (a := 0) hn' (by omega)
    simp only [e61_0, e61_1, e61_4, e61_7, e61_10, e61_12, e61_13, e61_14, e61_17, e61_18, e61_21, e61_24, e61_25, e61_26, e61_29, e61_32, e61_33, e61_36, e61_39, zgF, zgA, zgR, zisO, zpush, zopt_some, ↓reduceIte, List.getElem?_cons_succ, List.getElem?_cons_zero, beq_self_eq_true, true_and, and_true, Bool.true_and, Bool.and_true, Bool.false_and, Bool.and_false, nI_1, not_true_eq_false, not_false_eq_true, vp_narI, D0, x0, e0]
    refine c_H_takeLatest (k := 0) hn' hK.1.2.2.1.ty hH (fun h1 F1 H1 S1 G1 => ?_)
    have D1 : h1[0]? = some (zob 5 [.ref 1, .ref 10, .ref 75, .ref 76, .ref 77, .ref 80, .ref P, .ref T]) := F1.at D0 (by omega)
    obtain ⟨hPT, -, -, ⟨ln, dr, hW, hC⟩, ⟨cf, sf, lf, t, hL1⟩, ⟨cf', sf', lf', t', hT⟩⟩ := hK.1
    have pt : (P = 82 ∧ T = 86) ∨ (P = 86 ∧ T = 82) := hPT
    have K1 : zKp h1 P T (H (n - 1)) := ⟨hPT, D1, S1, hW.ex hC (fun y x1 x2 => F1.2 y (by omega)), hL1.ex (fun y x1 x2 => F1.2 y (by omega)), hT.ex (fun y x1 x2 => F1.2 y (by omega))⟩
    simp only [e61_0, e61_1, e61_4, e61_7, e61_10, e61_12, e61_13, e61_14, e61_17, e61_18, e61_21, e61_24, e61_25, e61_26, e61_29, e61_32, e61_33, e61_36, e61_39, zgF, zgA, zgR, zisO, zpush, zopt_some, ↓reduceIte, List.getElem?_cons_succ, List.getElem?_cons_zero, beq_self_eq_true, true_and, and_true, Bool.true_and, Bool.and_true, Bool.false_and, Bool.and_false, nI_1, not_true_eq_false, not_false_eq_true, vp_narI, D1]
    refine c_D_layP G1 K1 (fun h2 F2 K2 => ?_)
    have D2 : h2[0]? = some (zob 5 [.ref 1, .ref 10, .ref 75, .ref 76, .ref 77, .ref 80, .ref P, .ref T]) := K2.1.2.1
    have H2 := H1.fr (h' := h2) (fun y x1 x2 => F2.2 y (by unfold zWr; omega))
    obtain ⟨o2, ⟨y0, -⟩, -⟩ := id H2
    simp only [e61_0, e61_1, e61_4, e61_7, e61_10, e61_12, e61_13, e61_14, e61_17, e61_18, e61_21, e61_24, e61_25, e61_26, e61_29, e61_32, e61_33, e61_36, e61_39, zgF, zgA, zgR, zisO, zpush, zopt_some, ↓reduceIte, List.getElem?_cons_succ, List.getElem?_cons_zero, beq_self_eq_true, true_and, and_true, Bool.true_and, Bool.and_true, Bool.false_and, Bool.and_false, nI_1, not_true_eq_false, not_false_eq_true, vp_narI, D2, y0]
    refine hQ h2 ((F1.mono (fun j hj => by omega)).tr (F2.mono (fun j hj => by unfold zWr at hj; omega))) G1 ⟨⟨P, T, K2⟩, H2, hL.fr (fun y hy => (F2.2 y (by unfold zWr; omega)).trans (F1.2 y (by omega))), hP.fr (fun y x1 x2 => (F2.2 y (by unfold zWr; omega)).trans (F1.2 y (by omega)))⟩
theorem zin2 {s : Int32} : (zinb s 2 = true → (s = 0 ∨ s = 1)) ∧ (zinb s 2 = false → s < 0 ∨ (¬ s < 0 ∧ ¬ s < 2)) := by
  refine ⟨fun h => ?_, fun h => (zinb_pm (v := 2) (n := 2) rfl (by decide)).2 h⟩
  obtain ⟨k, hk, rfl⟩ := zinb_ex h (by decide)
  rcases (show k = 0 ∨ k = 1 by omega) with rfl | rfl
  · exact Or.inl rfl
  · exact Or.inr rfl
theorem c_D_save {s : Int32} (hg : zG a) (hK : zCl h a n H sv S l f) (h0 : zinb s 2 = false → Q (some (.int (-2))) (h, z))
    (hQ : zinb s 2 = true → ∀ h' : List zC, zFr (fun j => j < 108) h h' → zCl h' a n H (upd sv s.toNatClampNeg 1) (fun i => if i = s.toNatClampNeg then a else S i) l f → Q (some (.int (a 3))) (h', z)) : Ev 62 0 [.ref 0, .int s] [] (h, z) Q := by
  obtain ⟨⟨P, T, hK⟩, hH, hL, hP⟩ := hK
  have D0 : h[0]? = some (zob 5 [.ref 1, .ref 10, .ref 75, .ref 76, .ref 77, .ref 80, .ref P, .ref T]) := hK.1.2.1
  by_cases hz : zinb s 2 = true
  · obtain ⟨k, hk, rfl⟩ := zinb_ex hz (by decide)
    have e1 : (nI k).toNatClampNeg = k := nI_clamp (by omega)
    have hQ := hQ hz
    rw [e1] at hQ
    have a1 : ¬ nI k < 0 := nI_pos (by omega)
    have a2 : nI k < 2 := nI_lt (b := 2) hk (by decide)
    obtain ⟨q0, q1, q2⟩ := hL
    obtain ⟨v0, v1, v2, v3, v4, f1, f2, f3, f4, f5, f6, f7, f8, hX⟩ := (q2 k hk).1
    have x0 := hX.1
    simp only [e62_0, e62_1, e62_4, e62_5, e62_6, e62_9, e62_11, e62_12, e62_13, e62_16, e62_17, e62_18, e62_19, e62_22, e62_25, e62_26, e62_29, e62_30, e62_31, e62_32, e62_33, e62_36, e62_39, zgF, zgA, zgR, zisO, zpush, zopt_some, ↓reduceIte, List.getElem?_cons_succ, List.getElem?_cons_zero, beq_self_eq_true, true_and, and_true, Bool.true_and, Bool.and_true, Bool.false_and, Bool.and_false, nI_1, not_true_eq_false, not_false_eq_true, vp_narI, D0, a1, a2, q0, zrr, hz, e1, hk, x0]
    refine c_S_copyFrom hg (by omega) hK.1.2.2.1 hX (fun h1 F1 S1 => ?_)
    have pt : (P = 82 ∧ T = 86) ∨ (P = 86 ∧ T = 82) := hK.1.1
    have D1 : h1[0]? = some (zob 5 [.ref 1, .ref 10, .ref 75, .ref 76, .ref 77, .ref 80, .ref P, .ref T]) := F1.at D0 (by omega)
    have q1' : h1[76]? = some (zar .boolean 2 sv) := F1.at q1 (by omega)
    have K1 := hK.fr (h' := h1) (fun j hj => F1.2 j (by unfold zWr at hj; omega))
    have s1 := K1.1.2.2.1.1
    have D2 := zset_ne (k := 76) (c := zar .boolean 2 (upd sv k 1)) D1 (by omega)
    have s2 := zset_ne (k := 76) (c := zar .boolean 2 (upd sv k 1)) s1 (by omega)
    simp only [e62_0, e62_1, e62_4, e62_5, e62_6, e62_9, e62_11, e62_12, e62_13, e62_16, e62_17, e62_18, e62_19, e62_22, e62_25, e62_26, e62_29, e62_30, e62_31, e62_32, e62_33, e62_36, e62_39, zgF, zgA, zgR, zisO, zpush, zopt_some, ↓reduceIte, List.getElem?_cons_succ, List.getElem?_cons_zero, beq_self_eq_true, true_and, and_true, Bool.true_and, Bool.and_true, Bool.false_and, Bool.and_false, nI_1, not_true_eq_false, not_false_eq_true, vp_narI, D1, q1', hz, e1, (show vp_nar .boolean (1 : Int32) = 1 by decide), D2, s2]
    have F2 : zFr (fun j => j = 76) h1 (h1.set 76 (zar .boolean 2 (upd sv k 1))) := zFr.set rfl
    have r1 := zset_self (c := zar .boolean 2 (upd sv k 1)) q1'
    generalize h1.set 76 (zar .boolean 2 (upd sv k 1)) = h2 at F2 r1 ⊢
    have off : ∀ y, y ≠ 76 → (y < 90 + 9 * k ∨ 90 + 9 * k + 8 < y) → h2[y]? = h[y]? := fun y y1 y2 => (F2.2 y y1).trans (F1.2 y (by omega))
    refine hQ h2 ((F1.mono (fun j hj => by omega)).tr (F2.mono (fun j hj => by omega))) ⟨⟨P, T, K1.fr (fun j hj => F2.2 j (by unfold zWr at hj; omega))⟩, hH.fr (fun y x1 x2 => off y (by omega) (by omega)), ⟨(off _ (by omega) (by omega)).trans q0, r1, fun i hi => ?_⟩, hP.fr (fun y x1 x2 => off y (by omega) (by omega))⟩
    have S2 := S1.fr (h' := h2) (fun y x1 x2 => F2.2 y (by omega))
    by_cases hi2 : i = k
    · subst hi2
      refine ⟨S2.ty, Or.inr (upd_s _ _ _), fun _ => ?_⟩
      show zSt h2 (90 + 9 * i) (if i = i then a else S i) ∧ zG (if i = i then a else S i)
      rw [if_pos rfl]
      exact ⟨S2, hg⟩
    · obtain ⟨t1, t2, t3⟩ := q2 i hi
      rw [upd_n hi2]
      show _ ∧ _ ∧ (_ → zSt h2 (90 + 9 * i) (if i = k then a else S i) ∧ zG (if i = k then a else S i))
      rw [if_neg hi2]
      exact ⟨t1.fr (fun y x1 x2 => off y (by omega) (by omega)), t2, fun e => ⟨(t3 e).1.fr (fun y x1 x2 => off y (by omega) (by omega)), (t3 e).2⟩⟩
  · rw [Bool.not_eq_true] at hz
    have h0 := h0 hz
    rcases zin2.2 hz with h1 | ⟨h1, h2⟩
    · simp only [e62_0, e62_1, e62_4, e62_5, e62_6, e62_9, e62_11, e62_12, e62_13, e62_16, e62_17, e62_18, e62_19, e62_22, e62_25, e62_26, e62_29, e62_30, e62_31, e62_32, e62_33, e62_36, e62_39, zgF, zgA, zgR, zisO, zpush, zopt_some, ↓reduceIte, List.getElem?_cons_succ, List.getElem?_cons_zero, beq_self_eq_true, true_and, and_true, Bool.true_and, Bool.and_true, Bool.false_and, Bool.and_false, nI_1, not_true_eq_false, not_false_eq_true, vp_narI, h1]
      exact h0
    · simp only [e62_0, e62_1, e62_4, e62_5, e62_6, e62_9, e62_11, e62_12, e62_13, e62_16, e62_17, e62_18, e62_19, e62_22, e62_25, e62_26, e62_29, e62_30, e62_31, e62_32, e62_33, e62_36, e62_39, zgF, zgA, zgR, zisO, zpush, zopt_some, ↓reduceIte, List.getElem?_cons_succ, List.getElem?_cons_zero, beq_self_eq_true, true_and, and_true, Bool.true_and, Bool.and_true, Bool.false_and, Bool.and_false, nI_1, not_true_eq_false, not_false_eq_true, vp_narI, h1, h2]
      exact h0
theorem c_D_restore {s : Int32} (hg : zG a) (hK : zCl h a n H sv S l f) (h0 : zinb s 2 = false → Q (some (.int (-2))) (h, z)) (h00 : zinb s 2 = true → sv s.toNatClampNeg = 0 → Q (some (.int (-5))) (h, z))
    (hQ : zinb s 2 = true → sv s.toNatClampNeg = 1 → zG (S s.toNatClampNeg) → ∀ h' : List zC, zFr (fun j => j < 108) h h' → zCl h' (S s.toNatClampNeg) (pshN n) (pshH n H a) sv S l f → Q (some (.int (S s.toNatClampNeg 3))) (h', z)) : Ev 63 0 [.ref 0, .int s] [] (h, z) Q := by
  obtain ⟨⟨P, T, hK⟩, hH, hL, hP⟩ := hK
  have D0 : h[0]? = some (zob 5 [.ref 1, .ref 10, .ref 75, .ref 76, .ref 77, .ref 80, .ref P, .ref T]) := hK.1.2.1
  obtain ⟨o, ⟨x0, -⟩, -⟩ := id hH
  by_cases hz : zinb s 2 = true
  · obtain ⟨k, hk, rfl⟩ := zinb_ex hz (by decide)
    have e1 : (nI k).toNatClampNeg = k := nI_clamp (by omega)
    have hQ := hQ hz
    have h00 := h00 hz
    rw [e1] at hQ h00
    have a1 : ¬ nI k < 0 := nI_pos (by omega)
    have a2 : nI k < 2 := nI_lt (b := 2) hk (by decide)
    obtain ⟨q0, q1, q2⟩ := id hL
    obtain ⟨t1, t2, t3⟩ := q2 k hk
    by_cases hs : sv k = 0
    · simp only [e63_0, e63_1, e63_4, e63_5, e63_6, e63_9, e63_11, e63_12, e63_13, e63_16, e63_17, e63_18, e63_21, e63_23, e63_24, e63_25, e63_28, e63_29, e63_32, e63_35, e63_36, e63_39, e63_40, e63_43, e63_44, e63_45, e63_48, e63_49, e63_50, e63_53, e63_56, e63_57, e63_58, e63_61, e63_64, e63_67, zgF, zgA, zgR, zisO, zpush, zopt_some, ↓reduceIte, List.getElem?_cons_succ, List.getElem?_cons_zero, beq_self_eq_true, true_and, and_true, Bool.true_and, Bool.and_true, Bool.false_and, Bool.and_false, nI_1, not_true_eq_false, not_false_eq_true, vp_narI, D0, a1, a2, q1, hz, e1, hs]
      exact h00 hs
    · have hs1 : sv k = 1 := t2.resolve_left hs
      obtain ⟨Sk, Gk⟩ := t3 hs1
      have hQ := hQ hs1 Gk
      simp only [e63_0, e63_1, e63_4, e63_5, e63_6, e63_9, e63_11, e63_12, e63_13, e63_16, e63_17, e63_18, e63_21, e63_23, e63_24, e63_25, e63_28, e63_29, e63_32, e63_35, e63_36, e63_39, e63_40, e63_43, e63_44, e63_45, e63_48, e63_49, e63_50, e63_53, e63_56, e63_57, e63_58, e63_61, e63_64, e63_67, zgF, zgA, zgR, zisO, zpush, zopt_some, ↓reduceIte, List.getElem?_cons_succ, List.getElem?_cons_zero, beq_self_eq_true, true_and, and_true, Bool.true_and, Bool.and_true, Bool.false_and, Bool.and_false, nI_1, not_true_eq_false, not_false_eq_true, vp_narI, D0, a1, a2, q1, hz, e1, hs1, (show ¬ (1 : Int32) = 0 by decide), x0]
      refine c_H_draft hg hK.1.2.2.1 hH (fun h1 F1 H1 => ?_)
      have K1 := hK.fr (h' := h1) (fun j hj => F1.2 j (by unfold zWr at hj; omega))
      have L1 := hL.fr (h' := h1) (fun j hj => F1.2 j (by omega))
      have P1 := hP.fr (h' := h1) (fun j x1 x2 => F1.2 j (by omega))
      have D1 : h1[0]? = some (zob 5 [.ref 1, .ref 10, .ref 75, .ref 76, .ref 77, .ref 80, .ref P, .ref T]) := K1.1.2.1
      obtain ⟨r0, r1, r2⟩ := id L1
      obtain ⟨Sk1, -⟩ := (r2 k hk).2.2 hs1
      obtain ⟨v0, v1, v2, v3, v4, f1, f2, f3, f4, f5, f6, f7, f8, hX⟩ := K1.1.2.2.1.ty
      have x1 := hX.1
      simp only [e63_0, e63_1, e63_4, e63_5, e63_6, e63_9, e63_11, e63_12, e63_13, e63_16, e63_17, e63_18, e63_21, e63_23, e63_24, e63_25, e63_28, e63_29, e63_32, e63_35, e63_36, e63_39, e63_40, e63_43, e63_44, e63_45, e63_48, e63_49, e63_50, e63_53, e63_56, e63_57, e63_58, e63_61, e63_64, e63_67, zgF, zgA, zgR, zisO, zpush, zopt_some, ↓reduceIte, List.getElem?_cons_succ, List.getElem?_cons_zero, beq_self_eq_true, true_and, and_true, Bool.true_and, Bool.and_true, Bool.false_and, Bool.and_false, nI_1, not_true_eq_false, not_false_eq_true, vp_narI, D1, r0, zrr, hz, e1, hk, x1]
      refine c_S_copyFrom Gk (by omega) Sk1 hX (fun h2 F2 S2 => ?_)
      have H2 := H1.fr (h' := h2) (fun j x1 x2 => F2.2 j (by omega))
      have L2 := L1.fr (h' := h2) (fun j hj => F2.2 j (by omega))
      have P2 := P1.fr (h' := h2) (fun j x1 x2 => F2.2 j (by omega))
      have D2 : h2[0]? = some (zob 5 [.ref 1, .ref 10, .ref 75, .ref 76, .ref 77, .ref 80, .ref P, .ref T]) := F2.at D1 (by omega)
      obtain ⟨hPT, -, -, ⟨ln, dr, hW, hC⟩, ⟨cf, sf, lf, t, hL1⟩, ⟨cf', sf', lf', t', hT⟩⟩ := K1.1
      have pt : (P = 82 ∧ T = 86) ∨ (P = 86 ∧ T = 82) := hPT
      have K2 : zKp h2 P T (S k) := ⟨hPT, D2, S2, hW.ex hC (fun y x1 x2 => F2.2 y (by omega)), hL1.ex (fun y x1 x2 => F2.2 y (by omega)), hT.ex (fun y x1 x2 => F2.2 y (by omega))⟩
      simp only [e63_0, e63_1, e63_4, e63_5, e63_6, e63_9, e63_11, e63_12, e63_13, e63_16, e63_17, e63_18, e63_21, e63_23, e63_24, e63_25, e63_28, e63_29, e63_32, e63_35, e63_36, e63_39, e63_40, e63_43, e63_44, e63_45, e63_48, e63_49, e63_50, e63_53, e63_56, e63_57, e63_58, e63_61, e63_64, e63_67, zgF, zgA, zgR, zisO, zpush, zopt_some, ↓reduceIte, List.getElem?_cons_succ, List.getElem?_cons_zero, beq_self_eq_true, true_and, and_true, Bool.true_and, Bool.and_true, Bool.false_and, Bool.and_false, nI_1, not_true_eq_false, not_false_eq_true, vp_narI, D2]
      refine c_D_layP Gk K2 (fun h3 F3 K3 => ?_)
      have H3 := H2.fr (h' := h3) (fun j x1 x2 => F3.2 j (by unfold zWr; omega))
      have L3 := L2.fr (h' := h3) (fun j hj => F3.2 j (by unfold zWr; omega))
      have P3 := P2.fr (h' := h3) (fun j x1 x2 => F3.2 j (by unfold zWr; omega))
      have D3 : h3[0]? = some (zob 5 [.ref 1, .ref 10, .ref 75, .ref 76, .ref 77, .ref 80, .ref P, .ref T]) := K3.1.2.1
      have s3 := K3.1.2.2.1.1
      simp only [e63_0, e63_1, e63_4, e63_5, e63_6, e63_9, e63_11, e63_12, e63_13, e63_16, e63_17, e63_18, e63_21, e63_23, e63_24, e63_25, e63_28, e63_29, e63_32, e63_35, e63_36, e63_39, e63_40, e63_43, e63_44, e63_45, e63_48, e63_49, e63_50, e63_53, e63_56, e63_57, e63_58, e63_61, e63_64, e63_67, zgF, zgA, zgR, zisO, zpush, zopt_some, ↓reduceIte, List.getElem?_cons_succ, List.getElem?_cons_zero, beq_self_eq_true, true_and, and_true, Bool.true_and, Bool.and_true, Bool.false_and, Bool.and_false, nI_1, not_true_eq_false, not_false_eq_true, vp_narI, D3, s3]
      refine c_D_recorded hg K3.1.2.1 H3 (fun h4 F4 H4 => ?_)
      obtain ⟨g3, b3⟩ := Gk.2.2.2.1
      have hp : ¬ (S k) 3 < 0 := by rw [g3]; exact nI_pos (by omega)
      unfold recN recH at H4
      rw [if_neg hp, if_neg hp] at H4
      simp only [e63_0, e63_1, e63_4, e63_5, e63_6, e63_9, e63_11, e63_12, e63_13, e63_16, e63_17, e63_18, e63_21, e63_23, e63_24, e63_25, e63_28, e63_29, e63_32, e63_35, e63_36, e63_39, e63_40, e63_43, e63_44, e63_45, e63_48, e63_49, e63_50, e63_53, e63_56, e63_57, e63_58, e63_61, e63_64, e63_67, zgF, zgA, zgR, zisO, zpush, zopt_some, ↓reduceIte, List.getElem?_cons_succ, List.getElem?_cons_zero, beq_self_eq_true, true_and, and_true, Bool.true_and, Bool.and_true, Bool.false_and, Bool.and_false, nI_1, not_true_eq_false, not_false_eq_true, vp_narI]
      exact hQ h4 ((((F1.mono (fun j hj => by omega)).tr (F2.mono (fun j hj => by omega))).tr (F3.mono (fun j hj => by unfold zWr at hj; omega))).tr (F4.mono (fun j hj => by omega))) ⟨⟨P, T, K3.fr (fun j hj => F4.2 j (by unfold zWr at hj; omega))⟩, H4, L3.fr (fun j hj => F4.2 j (by omega)), P3.fr (fun j x1 x2 => F4.2 j (by omega))⟩
  · rw [Bool.not_eq_true] at hz
    have h0 := h0 hz
    rcases zin2.2 hz with h1 | ⟨h1, h2⟩
    · simp only [e63_0, e63_1, e63_4, e63_5, e63_6, e63_9, e63_11, e63_12, e63_13, e63_16, e63_17, e63_18, e63_21, e63_23, e63_24, e63_25, e63_28, e63_29, e63_32, e63_35, e63_36, e63_39, e63_40, e63_43, e63_44, e63_45, e63_48, e63_49, e63_50, e63_53, e63_56, e63_57, e63_58, e63_61, e63_64, e63_67, zgF, zgA, zgR, zisO, zpush, zopt_some, ↓reduceIte, List.getElem?_cons_succ, List.getElem?_cons_zero, beq_self_eq_true, true_and, and_true, Bool.true_and, Bool.and_true, Bool.false_and, Bool.and_false, nI_1, not_true_eq_false, not_false_eq_true, vp_narI, h1]
      exact h0
    · simp only [e63_0, e63_1, e63_4, e63_5, e63_6, e63_9, e63_11, e63_12, e63_13, e63_16, e63_17, e63_18, e63_21, e63_23, e63_24, e63_25, e63_28, e63_29, e63_32, e63_35, e63_36, e63_39, e63_40, e63_43, e63_44, e63_45, e63_48, e63_49, e63_50, e63_53, e63_56, e63_57, e63_58, e63_61, e63_64, e63_67, zgF, zgA, zgR, zisO, zpush, zopt_some, ↓reduceIte, List.getElem?_cons_succ, List.getElem?_cons_zero, beq_self_eq_true, true_and, and_true, Bool.true_and, Bool.and_true, Bool.false_and, Bool.and_false, nI_1, not_true_eq_false, not_false_eq_true, vp_narI, h1, h2]
      exact h0
end ZC
end
