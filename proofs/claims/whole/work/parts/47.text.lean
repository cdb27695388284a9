/-! the texts' calls -/
section
set_option maxRecDepth 100000
theorem fits_c : ∀ c, c < 127 → zfits .char (.int (nI c)) = true := by decide +kernel
section ZC
variable {h : List zC} {z : Nat × (Nat × (Nat → Int32))} {a : Nat → Int32} {Q : Option Value → zX → Prop} {n l : Nat} {H S : Nat → Nat → Int32} {sv f : Nat → Int32}
theorem zPd.x (hP : zPd h l f) : (∃ p kd fi se, zPx h l p kd fi se f) ∧ l ≤ 60 ∧ (∀ i, i < l → zfits .char (.int (f i)) = true) := by
  obtain ⟨⟨p, kd, fi, se, h0⟩, h1, h2, h3⟩ := hP
  exact ⟨⟨p, kd, fi, se, h0, h1⟩, h2, fun i hi => by obtain ⟨c, -, hc, e⟩ := h3 i hi; rw [e]; exact fits_c c hc⟩
theorem zPx.pd {h' : List zC} {p : Nat} {kd fi se : Int32} (hP : zPd h l f) (hX : zPx h' l p kd fi se f) : zPd h' l f := ⟨⟨p, kd, fi, se, hX.1⟩, hX.2, hP.2.2⟩
theorem zCl.pad {h' : List zC} (hK : zCl h a n H sv S l f) (hF : zFr (fun j => j = 80) h h') {l' : Nat} {f' : Nat → Int32} (hP : zPd h' l' f') : zCl h' a n H sv S l' f' := by
  obtain ⟨⟨P, T, hK⟩, hH, hL, -⟩ := hK
  exact ⟨⟨P, T, hK.fr (fun j hj => hF.2 j (by unfold zWr at hj; omega))⟩, hH.fr (fun j x1 x2 => hF.2 j (by omega)), hL.fr (fun j hj => hF.2 j (by omega)), hP⟩
theorem c_D_fault (hK : zCl h a n H sv S l f) (hQ : ∀ h' : List zC, zFr (fun j => j < 108) h h' → zCl h' a n H sv S l f → Q (some (.int (flt f l 60 0))) (h', z)) : Ev 59 0 [.ref 0] [] (h, z) Q := by
  obtain ⟨⟨P, T, hK'⟩, -, -, hP⟩ := id hK
  have D0 : h[0]? = some (zob 5 [.ref 1, .ref 10, .ref 75, .ref 76, .ref 77, .ref 80, .ref P, .ref T]) := hK'.1.2.1
  obtain ⟨⟨p, kd, fi, se, hX⟩, hl, hc⟩ := hP.x
  have x0 := hX.1
  simp only [e59_0, e59_1, e59_4, e59_7, zgF, zgA, zgR, zisO, zpush, zopt_some, ↓reduceIte, List.getElem?_cons_succ, List.getElem?_cons_zero, beq_self_eq_true, true_and, and_true, Bool.true_and, Bool.and_true, Bool.false_and, Bool.and_false, nI_1, not_true_eq_false, not_false_eq_true, vp_narI, D0, x0]
  refine c_P_firstFault hl hc hX (fun h1 p1 kd1 fi1 se1 F1 X1 _ => ?_)
  simp only [e59_0, e59_1, e59_4, e59_7, zgF, zgA, zgR, zisO, zpush, zopt_some, ↓reduceIte, List.getElem?_cons_succ, List.getElem?_cons_zero, beq_self_eq_true, true_and, and_true, Bool.true_and, Bool.and_true, Bool.false_and, Bool.and_false, nI_1, not_true_eq_false, not_false_eq_true, vp_narI]
  exact hQ h1 (F1.mono (fun j hj => by omega)) (hK.pad F1 (X1.pd hP))
theorem c_D_wipe (hK : zCl h a n H sv S l f) (hQ : ∀ h' : List zC, zFr (fun j => j < 108) h h' → zCl h' a n H sv S 0 f → Q (some (.int (nI l))) (h', z)) : Ev 58 0 [.ref 0, zU] [] (h, z) Q := by
  obtain ⟨⟨P, T, hK'⟩, -, -, hP⟩ := id hK
  have D0 : h[0]? = some (zob 5 [.ref 1, .ref 10, .ref 75, .ref 76, .ref 77, .ref 80, .ref P, .ref T]) := hK'.1.2.1
  obtain ⟨⟨p, kd, fi, se, x0, x1⟩, hl, hc⟩ := hP.x
  have F1 : zFr (fun j => j = 80) h (h.set 80 (zob 2 [.ref 81, .int 0, .int (nI p), .int kd, .int fi, .int se])) := zFr.set rfl
  simp only [e58_0, e58_1, e58_4, e58_7, e58_8, e58_9, e58_12, e58_13, e58_16, e58_17, zgF, zgA, zgR, zisO, zpush, zopt_some, ↓reduceIte, List.getElem?_cons_succ, List.getElem?_cons_zero, beq_self_eq_true, true_and, and_true, Bool.true_and, Bool.and_true, Bool.false_and, Bool.and_false, nI_1, not_true_eq_false, not_false_eq_true, vp_narI, D0, x0, zpF, List.length_cons, List.length_nil, Nat.reduceAdd, Nat.reduceLT, and_self, List.set_cons_succ, List.set_cons_zero]
  exact hQ _ (F1.mono (fun j hj => by omega)) (hK.pad F1 ⟨⟨p, kd, fi, se, zset_self x0⟩, zset_ne x1 (by decide), by omega, fun i hi => absurd hi (by omega)⟩)
end ZC
end
