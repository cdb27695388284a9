/-! the law's isDown -/
section
set_option maxRecDepth 100000
section ZC
variable {h : List zC} {z : Nat × (Nat × (Nat → Int32))} {a : Nat → Int32} {Q : Option Value → zX → Prop} {n l : Nat} {H S : Nat → Nat → Int32} {sv f : Nat → Int32}
theorem npt_of {s : Nat} (h : ¬ a (29 + s) = 0) : ¬ pt a s = true := fun q => h (tp_i.mp (pt_ex q).2).1
theorem fsN_0 {s : Nat} (h : ¬ a (29 + s) = 0) : fsN a s = 0 := by
  unfold fsN
  rw [if_neg (fun q => h (tp_i.mp q).1)]
theorem his_6 (hK : zCl h a n H sv S l f) : n ≤ 6 := by
  obtain ⟨-, ⟨o, ⟨-, -, -, h6, -⟩, -⟩, -⟩ := hK
  exact h6
theorem c_isDown {s : Nat} (hg : zG a) (ha : asc a) (hK : zCl h a n H sv S l f) (hs : s < gN a 2)
    (hQ : ∀ (h' : List zC) (a' : Nat → Int32) (n' : Nat) (H' : Nat → Nat → Int32), h'.length = h.length → zG a' → asc a' → gN a' 2 = gN a 2 → zCl h' a' n' H' sv S l f → Q (some (.int 1)) (h', z)) :
    Ev 67 0 [.ref 0, .int (nI s), zU, zU, zU] [] (h, z) Q := by
  have b2 := hg.2.2.1.2
  have b3 := hg.2.2.2.1.2
  have n6 := his_6 hK
  have o0 := hK.o
  obtain ⟨⟨P, T, K⟩, -⟩ := id hK
  have cO := fun (s w : Int32) (Q : Option Value → zX → Prop) => c_D_ofServer (s := s) (w := w) (Q := Q) (z := z) hg K
  have q2 := qO_2 hg hs
  have q3 := qO_3 hg hs
  have x1 : ¬ (1 : Int32) = 0 := by decide
  have x2 : ¬ (0 : Int32) = 1 := by decide
  rcases (hg.2.2.2.2.2.1 s hs).2.2 with hd | hd
  · -- up: it goes down, and comes up again
    rw [hd] at q2
    have d1 : ¬ a (29 + s) = 1 := by rw [hd]; decide
    have e := chD_i hg hs d1
    have hb := zG_down hg (s := s) (d := 1) (by omega) (Or.inr rfl)
    have hab : asc (upd a (29 + s) 1) := asc_of ha (upd_n (by omega)) (fun k hk => upd_n (by omega))
    have hsm : sam a (upd a (29 + s) 1) := sam_of hg (upd_n (by omega)) (upd_n (by omega)) (fun k hk => upd_n (by omega)) (fun k hk => upd_n (by omega))
    have dlo : ¬ upd a (29 + s) 1 (29 + s) = 0 := by rw [upd_s]; decide
    have lo2 : gN (upd a (29 + s) 1) 2 = gN a 2 := gN_u (by omega)
    have lo3 : gN (upd a (29 + s) 1) 3 = gN a 3 := gN_u (by omega)
    have hrz : ∀ o, Rz s (upd a (29 + s) 1) a o := fun o => rz_up (by omega) (by rw [lo2]; omega) (fun i _ _ hi => (upd_n hi).symm) dlo
    obtain ⟨g1, g2, g3⟩ := fm_k (a := a) hb hab (upd_n (by omega))
    have em := (fmA_ok (a0 := a) hb).2
    have y4 : fmA a (upd a (29 + s) 1) 4 = nI (ldN a s (gN a 3)) := by
      rw [fmA_4 hg hb, lo3, (mx_dnS hb hg (by omega) hsm hrz (npt_of dlo) (gN a 3) (by rw [lo3]; omega)).1]
    have mv1 := mv_dn (s := s) hg hb (by omega) hab hsm hrz
    have r1 := fm4_ok (a0 := a) hb
    generalize hlo : upd a (29 + s) 1 = lo at *
    have d5 : ¬ fmA a lo (29 + s) = 0 := by rw [em (29 + s) (by omega) (by omega)]; exact dlo
    have e5 := chD_i (d := 0) g1 (s := s) (by rw [g3]; exact hs) d5
    have hb5 := zG_down g1 (s := s) (d := 0) (by omega) (Or.inl rfl)
    have hab5 : asc (upd (fmA a lo) (29 + s) 0) := asc_of g2 (upd_n (by omega)) (fun k hk => by have := g1.2.2.2.1.2; exact upd_n (by omega))
    have hsm5 : sam (fmA a lo) (upd (fmA a lo) (29 + s) 0) := by
      have := g1.2.2.2.1.2
      exact sam_of g1 (upd_n (by omega)) (upd_n (by omega)) (fun k hk => upd_n (by omega)) (fun k hk => upd_n (by omega))
    obtain ⟨p1, p2, p3⟩ := fm_k (a := fmA a lo) hb5 hab5 (upd_n (by omega))
    have em5 := (fmA_ok (a0 := fmA a lo) hb5).2
    have hrz5 : ∀ o, Rz s (fmA a lo) (upd (fmA a lo) (29 + s) 0) o := fun o => rz_up (by omega) (by rw [g3]; omega) (fun i _ _ hi => upd_n hi) d5
    have emh : zEqM a (upd (fmA a lo) (29 + s) 0) := fun i h1 h4 => by
      by_cases hi : i = 29 + s
      · rw [hi, upd_s, hd]
      · rw [upd_n hi, em i h1 h4, ← hlo, upd_n hi]
    have hi3 : gN (upd (fmA a lo) (29 + s) 0) 3 = gN a 3 := emh.g (by decide) (by decide)
    have y5 : fmA (fmA a lo) (upd (fmA a lo) (29 + s) 0) 4 = nI (ldN a s (gN a 3)) := by
      have hsm6 : sam (upd (fmA a lo) (29 + s) 0) (fmA a lo) := by
        have := g1.2.2.2.1.2
        refine ⟨(upd_n (by omega)).symm, fun k hk => ⟨(gN_u (by omega)).symm, (upd_n (by omega)).symm⟩⟩
      have x3 : gN (fmA a lo) 3 = gN a 3 := (em.g (by decide) (by decide)).trans lo3
      rw [fmA_4 g1 hb5, hi3, (mx_dnS g1 hb5 (by omega) hsm6 hrz5 (npt_of d5) (gN a 3) (by rw [x3]; omega)).2, ldN_m hg emh _ b3]
    have mv5 := mv_up (s := s) g1 hb5 (by omega) hab5 hsm5 hrz5
    have r5 := fm4_ok (a0 := fmA a lo) hb5
    have l1 := ldN_0 g1 (npt_of d5) (gN (fmA a lo) 3)
    have l5 : ldN (fmA (fmA a lo) (upd (fmA a lo) (29 + s) 0)) s (gN (fmA (fmA a lo) (upd (fmA a lo) (29 + s) 0)) 3) = ldN a s (gN a 3) := by
      rw [em5.g (by decide) (by decide), hi3, ldN_m hb5 em5 _ b3, ldN_m hg emh _ b3]
    simp only [e67_0, e67_1, e67_2, e67_3, e67_6, e67_7, e67_10, e67_11, e67_12, e67_13, e67_16, e67_19, e67_20, e67_21, e67_22, e67_25, e67_26, e67_27, e67_30, e67_33, e67_34, e67_35, e67_36, e67_39, e67_42, e67_43, e67_46, e67_47, e67_48, e67_49, e67_50, e67_51, e67_54, e67_55, e67_56, e67_57, e67_58, e67_61, zpush, zopt_some, ↓reduceIte, List.getElem?_cons_succ, List.getElem?_cons_zero, beq_self_eq_true, true_and, and_true, Bool.true_and, Bool.and_true, Bool.false_and, Bool.and_false, nI_1, not_true_eq_false, not_false_eq_true, vp_narI, o0, cO, q2, q3, x2]
    refine c_D_down hg (Or.inr rfl) hK (fun h1 F1 C1 => ?_)
    rw [e] at C1
    have C1 : zCl h1 (fmA a lo) (recN (fmA a lo 4) n) (recH (fmA a lo 4) n H a) sv S l f := C1
    rw [recN_ok r1, recH_ok r1] at C1
    have n61 := his_6 C1
    have o1 := C1.o
    obtain ⟨⟨P1, T1, K1⟩, -⟩ := id C1
    have cC := fun (w : Int32) (Q : Option Value → zX → Prop) => c_D_count (w := w) (Q := Q) (z := z) g1 C1
    have cO1 := fun (s w : Int32) (Q : Option Value → zX → Prop) => c_D_ofServer (s := s) (w := w) (Q := Q) (z := z) g1 K1
    have cA := fun (Q : Option Value → zX → Prop) => c_areTo (Q := Q) (z := z) (s := s) (W := 1) (w := 1) rfl g1 C1 (by omega) (by decide) mv1
    have u3 := qO_3 g1 (s := s) (by rw [g3]; exact hs)
    have u4 := qO_4 g1 (s := s) (by rw [g3]; exact hs)
    rw [l1] at u3
    rw [fsN_0 d5] at u4
    have z0 : nI 0 = 0 := rfl
    simp only [e67_58, e67_61, e67_62, e67_63, e67_64, e67_65, e67_68, e67_71, e67_72, e67_73, e67_76, e67_77, e67_78, e67_79, e67_82, e67_85, e67_86, e67_87, e67_88, e67_91, e67_94, e67_95, e67_96, e67_97, e67_100, e67_103, e67_104, e67_107, e67_108, e67_110, e67_112, e67_115, e67_116, e67_117, e67_118, zpush, zopt_some, ↓reduceIte, List.getElem?_cons_succ, List.getElem?_cons_zero, beq_self_eq_true, true_and, and_true, Bool.true_and, Bool.and_true, Bool.false_and, Bool.and_false, nI_1, not_true_eq_false, not_false_eq_true, vp_narI, eq_self, e, y4, o1, cC, qC_4, cA, cO1, u3, u4, z0, x1]
    refine c_D_down g1 (Or.inl rfl) C1 (fun h2 F2 C2 => ?_)
    rw [e5] at C2
    have C2 : zCl h2 (fmA (fmA a lo) (upd (fmA a lo) (29 + s) 0)) (recN (fmA (fmA a lo) (upd (fmA a lo) (29 + s) 0) 4) (pshN n)) (recH (fmA (fmA a lo) (upd (fmA a lo) (29 + s) 0) 4) (pshN n) (pshH n H a) (fmA a lo)) sv S l f := C2
    rw [recN_ok r5, recH_ok r5] at C2
    obtain ⟨t1, t2⟩ := psh_top (a := fmA a lo) (H := pshH n H a) n61
    have o2 := C2.o
    obtain ⟨⟨P2, T2, K2⟩, -⟩ := id C2
    have cO2 := fun (s w : Int32) (Q : Option Value → zX → Prop) => c_D_ofServer (s := s) (w := w) (Q := Q) (z := z) p1 K2
    have cA2 := fun (Q : Option Value → zX → Prop) => c_areTo (Q := Q) (z := z) (s := s) (W := 2) (w := 2) rfl p1 C2 (by omega) (by decide) mv5
    have v3 := qO_3 p1 (s := s) (by rw [p3, g3]; exact hs)
    rw [l5] at v3
    generalize upd (fmA a lo) (29 + s) 0 = hi at *
    simp only [e67_118, e67_121, e67_122, e67_125, e67_126, e67_127, e67_128, e67_131, e67_134, e67_135, e67_136, e67_137, e67_140, e67_141, e67_144, e67_145, e67_148, e67_149, e67_151, e67_153, e67_156, e67_157, zpush, zopt_some, ↓reduceIte, List.getElem?_cons_succ, List.getElem?_cons_zero, beq_self_eq_true, true_and, and_true, Bool.true_and, Bool.and_true, Bool.false_and, Bool.and_false, nI_1, not_true_eq_false, not_false_eq_true, vp_narI, eq_self, e5, y5, o2, cA2, cO2, v3, x1]
    refine c_D_undo p1 C2 (fun q => absurd q (by omega)) (fun _ h3 F3 G3 C3 => ?_)
    rw [t2] at C3
    have nn : ¬ nI (pshN (pshN n) - 1) < 0 := nI_pos (by have := his_6 C2; omega)
    simp only [e67_157, e67_160, e67_163, e67_164, e67_167, e67_168, zpush, zopt_some, ↓reduceIte, List.getElem?_cons_succ, List.getElem?_cons_zero, beq_self_eq_true, true_and, and_true, Bool.true_and, Bool.and_true, Bool.false_and, Bool.and_false, nI_1, not_true_eq_false, not_false_eq_true, vp_narI, nn, x1, z1_and]
    exact hQ h3 _ _ _ (F3.1.trans (F2.1.trans F1.1)) g1 g2 g3 C3
  · rw [hd] at q2
    have d1 : ¬ a (29 + s) = 0 := by rw [hd]; decide
    have e := chD_i hg hs d1
    have hb := zG_down hg (s := s) (d := 0) (by omega) (Or.inl rfl)
    have hab : asc (upd a (29 + s) 0) := asc_of ha (upd_n (by omega)) (fun k hk => upd_n (by omega))
    have hsm : sam a (upd a (29 + s) 0) := sam_of hg (upd_n (by omega)) (upd_n (by omega)) (fun k hk => upd_n (by omega)) (fun k hk => upd_n (by omega))
    obtain ⟨g1, g2, g3⟩ := fm_k (a := a) hb hab (upd_n (by omega))
    have mv1 := mv_up (s := s) hg hb (by omega) hab hsm (fun o => rz_up (by omega) b2 (fun i _ _ hi => upd_n hi) d1)
    rw [ldN_0 hg (npt_of d1)] at q3
    have z0 : nI 0 = 0 := rfl
    simp only [e67_0, e67_1, e67_2, e67_3, e67_6, e67_7, e67_10, e67_11, e67_12, e67_13, e67_16, e67_19, e67_20, e67_21, e67_22, e67_25, e67_26, e67_27, e67_30, e67_33, e67_34, e67_35, e67_36, e67_39, e67_42, e67_43, e67_46, e67_47, zpush, zopt_some, ↓reduceIte, List.getElem?_cons_succ, List.getElem?_cons_zero, beq_self_eq_true, true_and, and_true, Bool.true_and, Bool.and_true, Bool.false_and, Bool.and_false, nI_1, not_true_eq_false, not_false_eq_true, vp_narI, eq_self, o0, cO, q2, q3, z0]
    refine c_D_down hg (Or.inl rfl) hK (fun h1 F1 C1 => ?_)
    rw [e] at C1
    have C1 : zCl h1 (fmA a (upd a (29 + s) 0)) (recN (fmA a (upd a (29 + s) 0) 4) n) (recH (fmA a (upd a (29 + s) 0) 4) n H a) sv S l f := C1
    have o1 := C1.o
    have cC := fun (w : Int32) (Q : Option Value → zX → Prop) => c_D_count (w := w) (Q := Q) (z := z) g1 C1
    have cA := fun (Q : Option Value → zX → Prop) => c_areTo (Q := Q) (z := z) (s := s) (W := 2) (w := 2) rfl g1 C1 (by omega) (by decide) mv1
    simp only [e67_22, e67_25, e67_26, e67_27, e67_30, e67_33, e67_34, e67_35, e67_36, e67_39, e67_42, e67_43, e67_46, e67_47, zpush, zopt_some, ↓reduceIte, List.getElem?_cons_succ, List.getElem?_cons_zero, beq_self_eq_true, true_and, and_true, Bool.true_and, Bool.and_true, Bool.false_and, Bool.and_false, nI_1, not_true_eq_false, not_false_eq_true, vp_narI, eq_self, e, o1, cC, qC_4, cA, x1, z1_and]
    exact hQ h1 _ _ _ F1.1 g1 g2 g3 C1
end ZC
end
