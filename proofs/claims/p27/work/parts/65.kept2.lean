/-! areKept: each object's places; the whole -/
section
set_option maxRecDepth 100000
section ZC
variable {h : List zC} {z : Nat × (Nat × (Nat → Int32))} {a : Nat → Int32} {Q : Option Value → zX → Prop} {n l : Nat} {H S : Nat → Nat → Int32} {sv f : Nat → Int32}
theorem l_kept2i {k len : Nat} {v1 v2 v3 v5 v6 : Int32} (hg : zG a) (ha : asc a) (hk : k < gN a 3)
    (hQ : ∀ (h' : List zC) (v10 v11 : Int32) (v12 v13 v14 : Value), h'.length = len → zCl h' a n H sv S l f → Ev 69 436 [.ref 0, .int v1, .int v2, .int v3, .int (nI (cps a)), .int v5, .int v6, .int 1, .int (nI k), .int (a (41 + k)), .int v10, .int v11, v12, v13, v14] [] (h', z) Q) :
    ∀ (j c : Nat) (h : List zC) (v12 v13 v14 : Value), c + j = cps a → h.length = len → zCl h a n H sv S l f →
      Ev 69 285 [.ref 0, .int v1, .int v2, .int v3, .int (nI (cps a)), .int v5, .int v6, .int 1, .int (nI k), .int (a (41 + k)), .int (nI (rkM a ((plK a k).take c))), .int (nI c), v12, v13, v14] [] (h, z) Q := by
  have c3 : cps a ≤ 3 := by have := hg.1.2.2; unfold cps; omega
  have b2 := hg.2.2.1.2
  have b3 := hg.2.2.2.1.2
  have x1 : ¬ (1 : Int32) = 0 := by decide
  have g41 := (hg.2.2.2.2.2.2 k hk).1
  have hlen := plK_len hg k
  have hpt := plK_pt hg k
  have hgd : Gd a (gN a (41 + k)) (if pnd a (a (81 + k)) = true then 1 else 0) (plK a k) := plc_gd _ _
  intro j
  induction j with
  | zero =>
    intro c h v12 v13 v14 hc hl hK
    have hc : c = cps a := by omega
    subst hc
    have e1 : nI (cps a) ≤ nI (cps a) := Int32.le_refl _
    rw [e69_285]
    simp only [e69_287, e69_289, e69_292, e69_294, zpush, zopt_some, ↓reduceIte, List.getElem?_cons_succ, List.getElem?_cons_zero, beq_self_eq_true, true_and, and_true, Bool.true_and, Bool.and_true, Bool.false_and, Bool.and_false, nI_1, not_true_eq_false, not_false_eq_true, vp_narI, e1]
    exact hQ h _ _ _ _ _ hl hK
  | succ j ih =>
    intro c h v12 v13 v14 hc hl hK
    have hlt : c < cps a := by omega
    have hlt2 : c < (plK a k).length := by omega
    have e1 : ¬ nI (cps a) ≤ nI c := nI_ge hlt (by omega)
    have o0 := hK.o
    obtain ⟨⟨P, T, K⟩, -⟩ := id hK
    have qp := qP_i hg ha (k := k) (c := c) hk (by omega)
    rw [plG_lt (by omega) hlt2] at qp
    have ps := hpt _ (getD_in hlt2)
    obtain ⟨d1, d2⟩ := hgd c hlt2
    have tks := take_s hlt2
    have hs := (pt_ex ps).1
    have qs := qS_i hg ps (o := gN a (41 + k)) g41.2
    rw [← g41.1] at qs
    generalize hse : (plK a k).getD c 0 = s at *
    have htk : ∀ p ∈ (plK a k).take c, p < gN a 2 := fun p hp => (pt_ex (hpt p (List.mem_of_mem_take hp))).1
    have hm := (rkM_ok hg htk).1
    have hbit := rkM_t hg htk hs
    rw [d1] at hbit
    obtain ⟨r1, r2⟩ := (hg.2.2.2.2.2.1 s hs).1
    have ra := rk_an _ hm _ r2 hbit
    have ro := (rk_or _ hm _ r2).1
    have rn : nI (rkM a ((plK a k).take c) ||| 2 ^ gN a (5 + s)) = nI (rkM a ((plK a k).take (c + 1))) := by rw [tks, rkM_app]
    rw [rn] at ro
    have fin416 : ∀ (h3 : List zC) (x14 : Int32), h3.length = len → zCl h3 a n H sv S l f → Ev 69 416 [.ref 0, .int v1, .int v2, .int v3, .int (nI (cps a)), .int v5, .int v6, .int 1, .int (nI k), .int (a (41 + k)), .int (nI (rkM a ((plK a k).take c))), .int (nI c), .int (nI s), .int ((1 : Int32) <<< (nI (gN a (5 + s)) &&& 31)), .int x14] [] (h3, z) Q := by
      intro h3 x14 hl3 C3
      simp only [e69_416, e69_417, e69_420, e69_421, e69_423, e69_425, e69_427, e69_428, e69_430, e69_433, zpush, zopt_some, ↓reduceIte, List.getElem?_cons_succ, List.getElem?_cons_zero, beq_self_eq_true, true_and, and_true, Bool.true_and, Bool.and_true, Bool.false_and, Bool.and_false, nI_1, not_true_eq_false, not_false_eq_true, vp_narI, ro]
      exact ih (c + 1) h3 _ _ _ (by omega) hl3 C3
    have tail : ∀ (h2 : List zC) (x14 : Int32), h2.length = len → zCl h2 a n H sv S l f → (x14 = 0 → 0 < c → lenS a s (gN a (41 + k)) ≤ lenS a ((plK a k).getD (c - 1) 0) (gN a (41 + k))) → Ev 69 360 [.ref 0, .int v1, .int v2, .int v3, .int (nI (cps a)), .int v5, .int v6, .int 1, .int (nI k), .int (a (41 + k)), .int (nI (rkM a ((plK a k).take c))), .int (nI c), .int (nI s), .int ((1 : Int32) <<< (nI (gN a (5 + s)) &&& 31)), .int x14] [] (h2, z) Q := by
      intro h2 x14 hl2 C2 hord
      have o2 := C2.o
      obtain ⟨⟨P2, T2, K2⟩, -⟩ := id C2
      have cS := fun (s w : Int32) (Q : Option Value → zX → Prop) => c_D_straw (s := s) (o := w) (Q := Q) (z := z) hg K2
      have y1 : ¬ nI (lenS a s (gN a (41 + k))) < 0 := nI_pos (lenN_lt _ _ _)
      by_cases h0 : c = 0
      · have y0 : nI c = 0 := by rw [h0]; rfl
        have := fin416 h2 x14 hl2 C2
        rw [y0] at this ⊢
        simp only [e69_360, e69_362, e69_364, e69_365, e69_368, e69_369, e69_371, e69_373, e69_376, e69_379, e69_381, zpush, zopt_some, ↓reduceIte, List.getElem?_cons_succ, List.getElem?_cons_zero, beq_self_eq_true, true_and, and_true, Bool.true_and, Bool.and_true, Bool.false_and, Bool.and_false, nI_1, not_true_eq_false, not_false_eq_true, vp_narI, ra, o2, cS, qs, y1]
        exact this
      · have y0 : ¬ nI c = 0 := nI_ne0 (by omega) (by omega)
        by_cases h14 : x14 = 0
        · have hc1 : c - 1 < (plK a k).length := by omega
          have ps1 := hpt _ (getD_in hc1)
          have qs1 := qS_i hg ps1 (o := gN a (41 + k)) g41.2
          rw [← g41.1] at qs1
          have qp1 := qP_i hg ha (k := k) (c := c - 1) hk (by omega)
          rw [plG_lt (by omega) hc1] at qp1
          have ym : nI c - 1 = nI (c - 1) := by
            obtain ⟨m, hm⟩ : ∃ m, c = m + 1 := ⟨c - 1, by omega⟩
            rw [hm, nI_sub1, Nat.add_sub_cancel]
          have y2 : ¬ nI (lenS a ((plK a k).getD (c - 1) 0) (gN a (41 + k))) < nI (lenS a s (gN a (41 + k))) := nI_nlt (hord h14 (by omega)) (lenN_lt _ _ _)
          simp only [e69_360, e69_362, e69_364, e69_365, e69_368, e69_369, e69_371, e69_373, e69_376, e69_379, e69_381, e69_384, e69_386, e69_389, e69_390, e69_392, e69_394, e69_397, e69_398, e69_399, e69_401, e69_403, e69_404, e69_405, zpush, zopt_some, ↓reduceIte, List.getElem?_cons_succ, List.getElem?_cons_zero, beq_self_eq_true, true_and, and_true, Bool.true_and, Bool.and_true, Bool.false_and, Bool.and_false, nI_1, not_true_eq_false, not_false_eq_true, vp_narI, ra, o2, cS, qs, y1, y0, h14, ym]
          refine c_D_place hg K2 (fun h3 F3 K3 => ?_)
          have C3 := C2.ko F3 K3
          have o3 := C3.o
          have cS3 := fun (s w : Int32) (Q : Option Value → zX → Prop) => c_D_straw (s := s) (o := w) (Q := Q) (z := z) hg K3
          simp only [e69_408, e69_410, e69_413, zpush, zopt_some, ↓reduceIte, List.getElem?_cons_succ, List.getElem?_cons_zero, beq_self_eq_true, true_and, and_true, Bool.true_and, Bool.and_true, Bool.false_and, Bool.and_false, nI_1, not_true_eq_false, not_false_eq_true, vp_narI, qp1, o3, cS3, qs1, y2]
          exact fin416 h3 _ (F3.1.trans hl2) C3
        · simp only [e69_360, e69_362, e69_364, e69_365, e69_368, e69_369, e69_371, e69_373, e69_376, e69_379, e69_381, e69_384, e69_386, zpush, zopt_some, ↓reduceIte, List.getElem?_cons_succ, List.getElem?_cons_zero, beq_self_eq_true, true_and, and_true, Bool.true_and, Bool.and_true, Bool.false_and, Bool.and_false, nI_1, not_true_eq_false, not_false_eq_true, vp_narI, ra, o2, cS, qs, y1, y0, h14]
          exact fin416 h2 x14 hl2 C2
    rw [e69_285]
    simp only [e69_287, e69_289, e69_292, e69_294, e69_297, e69_298, e69_300, e69_302, zpush, zopt_some, ↓reduceIte, List.getElem?_cons_succ, List.getElem?_cons_zero, beq_self_eq_true, true_and, and_true, Bool.true_and, Bool.and_true, Bool.false_and, Bool.and_false, nI_1, not_true_eq_false, not_false_eq_true, vp_narI, e1, x1, o0]
    refine c_D_place hg K (fun h1 F1 K1 => ?_)
    have C1 := hK.ko F1 K1
    have o1 := C1.o
    have hl1 := F1.1.trans hl
    have cO := fun (s w : Int32) (Q : Option Value → zX → Prop) => c_D_ofServer (s := s) (w := w) (Q := Q) (z := z) hg K1
    have cB := fun (m w : Int32) (Q : Option Value → zX → Prop) => c_D_object (m := m) (w := w) (Q := Q) (z := z) hg K1
    have u0 := qO_0 hg hs
    have q1 := qB_1 hg hk
    by_cases h2 : 2 ≤ c
    · have y2 : (2 : Int32) ≤ nI c := nI_le (a := 2) h2 (by omega)
      have y0 : ¬ nI c = 0 := nI_ne0 (by omega) (by omega)
      simp only [e69_305, e69_307, e69_308, e69_309, e69_311, e69_312, e69_315, e69_316, e69_318, e69_320, e69_323, e69_324, e69_326, e69_327, e69_330, e69_332, e69_335, e69_337, e69_338, e69_341, e69_342, e69_344, e69_345, e69_348, e69_350, e69_353, e69_354, e69_357, e69_358, zpush, zopt_some, ↓reduceIte, List.getElem?_cons_succ, List.getElem?_cons_zero, beq_self_eq_true, true_and, and_true, Bool.true_and, Bool.and_true, Bool.false_and, Bool.and_false, nI_1, not_true_eq_false, not_false_eq_true, vp_narI, qp, o1, cO, u0, r1, y0, y2]
      exact tail h1 0 hl1 C1 (fun _ _ => d2 (by split <;> omega))
    · have y2 : ¬ (2 : Int32) ≤ nI c := nI_ge (b := 2) (by omega) (by decide)
      by_cases p2 : a (81 + k) = -6
      · have p3 : ¬ (-6 : Int32) = nI s := fun q => nI_ne6 (by omega) q.symm
        have pn : pnd a (-6) = false := by
          unfold pnd
          have : zinb (-6) (gN a 2) = false := (zinb_no (by omega)).mpr (Or.inl (by decide))
          rw [this, Bool.false_and]
        rw [p2, pn] at d2
        by_cases h0 : c = 0
        · have y0 : nI c = 0 := by rw [h0]; rfl
          have t := tail h1 0 hl1 C1 (fun _ q => absurd q (by omega))
          rw [y0] at t qp y2 ⊢
          simp only [e69_305, e69_307, e69_308, e69_309, e69_311, e69_312, e69_315, e69_316, e69_318, e69_320, e69_323, e69_324, e69_326, e69_327, e69_330, e69_332, e69_335, e69_337, e69_338, e69_341, e69_342, e69_344, e69_345, e69_348, e69_350, e69_353, e69_354, e69_357, e69_358, zpush, zopt_some, ↓reduceIte, List.getElem?_cons_succ, List.getElem?_cons_zero, beq_self_eq_true, true_and, and_true, Bool.true_and, Bool.and_true, Bool.false_and, Bool.and_false, nI_1, not_true_eq_false, not_false_eq_true, vp_narI, eq_self, qp, o1, cO, u0, r1, y2, cB, q1, p2, p3]
          exact t
        · have y0 : ¬ nI c = 0 := nI_ne0 (by omega) (by omega)
          simp only [e69_305, e69_307, e69_308, e69_309, e69_311, e69_312, e69_315, e69_316, e69_318, e69_320, e69_323, e69_324, e69_326, e69_327, e69_330, e69_332, e69_335, e69_337, e69_338, e69_341, e69_342, e69_344, e69_345, e69_348, e69_350, e69_353, e69_354, e69_357, e69_358, zpush, zopt_some, ↓reduceIte, List.getElem?_cons_succ, List.getElem?_cons_zero, beq_self_eq_true, true_and, and_true, Bool.true_and, Bool.and_true, Bool.false_and, Bool.and_false, nI_1, not_true_eq_false, not_false_eq_true, vp_narI, eq_self, qp, o1, cO, u0, r1, y0, y2, cB, q1, p2]
          exact tail h1 0 hl1 C1 (fun _ q => d2 (by simpa using q))
      · by_cases h0 : c = 0
        · have y0 : nI c = 0 := by rw [h0]; rfl
          have t := fun x => tail h1 x hl1 C1 (fun _ q => absurd q (by omega))
          rw [y0] at t qp y2 ⊢
          by_cases p3 : a (81 + k) = nI s
          · rw [p3] at q1 p2
            simp only [e69_305, e69_307, e69_308, e69_309, e69_311, e69_312, e69_315, e69_316, e69_318, e69_320, e69_323, e69_324, e69_326, e69_327, e69_330, e69_332, e69_335, e69_337, e69_338, e69_341, e69_342, e69_344, e69_345, e69_348, e69_350, e69_353, e69_354, e69_357, e69_358, zpush, zopt_some, ↓reduceIte, List.getElem?_cons_succ, List.getElem?_cons_zero, beq_self_eq_true, true_and, and_true, Bool.true_and, Bool.and_true, Bool.false_and, Bool.and_false, nI_1, not_true_eq_false, not_false_eq_true, vp_narI, eq_self, qp, o1, cO, u0, r1, y2, cB, q1]
            exact t 1
          · simp only [e69_305, e69_307, e69_308, e69_309, e69_311, e69_312, e69_315, e69_316, e69_318, e69_320, e69_323, e69_324, e69_326, e69_327, e69_330, e69_332, e69_335, e69_337, e69_338, e69_341, e69_342, e69_344, e69_345, e69_348, e69_350, e69_353, e69_354, e69_357, e69_358, zpush, zopt_some, ↓reduceIte, List.getElem?_cons_succ, List.getElem?_cons_zero, beq_self_eq_true, true_and, and_true, Bool.true_and, Bool.and_true, Bool.false_and, Bool.and_false, nI_1, not_true_eq_false, not_false_eq_true, vp_narI, eq_self, qp, o1, cO, u0, r1, y2, cB, q1, p2, p3]
            exact t 1
        · have y0 : ¬ nI c = 0 := nI_ne0 (by omega) (by omega)
          simp only [e69_305, e69_307, e69_308, e69_309, e69_311, e69_312, e69_315, e69_316, e69_318, e69_320, e69_323, e69_324, e69_326, e69_327, e69_330, e69_332, e69_335, e69_337, e69_338, e69_341, e69_342, e69_344, e69_345, e69_348, e69_350, e69_353, e69_354, e69_357, e69_358, zpush, zopt_some, ↓reduceIte, List.getElem?_cons_succ, List.getElem?_cons_zero, beq_self_eq_true, true_and, and_true, Bool.true_and, Bool.and_true, Bool.false_and, Bool.and_false, nI_1, not_true_eq_false, not_false_eq_true, vp_narI, eq_self, qp, o1, cO, u0, r1, y0, y2, cB, q1, p2]
          exact tail h1 1 hl1 C1 (fun q => absurd q (by decide))
theorem l_kept2 {len : Nat} {v1 v2 v3 : Int32} (hg : zG a) (ha : asc a)
    (hQ : ∀ (h' : List zC) (v9 v10 v11 v12 v13 v14 : Value), h'.length = len → zCl h' a n H sv S l f → Ev 69 442 [.ref 0, .int v1, .int v2, .int v3, .int (nI (cps a)), .int 0, .int 0, .int 1, .int (nI (gN a 3)), v9, v10, v11, v12, v13, v14] [] (h', z) Q) :
    ∀ (j k : Nat) (h : List zC) (v9 v10 v11 v12 v13 v14 : Value), k + j = gN a 3 → h.length = len → zCl h a n H sv S l f →
      Ev 69 204 [.ref 0, .int v1, .int v2, .int v3, .int (nI (cps a)), .int 0, .int 0, .int 1, .int (nI k), v9, v10, v11, v12, v13, v14] [] (h, z) Q := by
  have c3 : cps a ≤ 3 := by have := hg.1.2.2; unfold cps; omega
  obtain ⟨g3, b3⟩ := hg.2.2.2.1
  have x1 : ¬ (1 : Int32) = 0 := by decide
  intro j
  induction j with
  | zero =>
    intro k h v9 v10 v11 v12 v13 v14 hk hl hK
    have hk : k = gN a 3 := by omega
    subst hk
    have o0 := hK.o
    have cC := fun (w : Int32) (Q : Option Value → zX → Prop) => c_D_count (w := w) (Q := Q) (z := z) hg hK
    have e1 : a 3 ≤ nI (gN a 3) := by rw [← g3]; exact Int32.le_refl _
    rw [e69_204]
    simp only [e69_206, e69_207, e69_208, e69_211, e69_214, e69_216, zpush, zopt_some, ↓reduceIte, List.getElem?_cons_succ, List.getElem?_cons_zero, beq_self_eq_true, true_and, and_true, Bool.true_and, Bool.and_true, Bool.false_and, Bool.and_false, nI_1, not_true_eq_false, not_false_eq_true, vp_narI, o0, cC, qC_1, e1]
    exact hQ h _ _ _ _ _ _ hl hK
  | succ j ih =>
    intro k h v9 v10 v11 v12 v13 v14 hk hl hK
    have hlt : k < gN a 3 := by omega
    have o0 := hK.o
    obtain ⟨⟨P, T, K⟩, -⟩ := id hK
    have cC := fun (w : Int32) (Q : Option Value → zX → Prop) => c_D_count (w := w) (Q := Q) (z := z) hg hK
    have cB := fun (m w : Int32) (Q : Option Value → zX → Prop) => c_D_object (m := m) (w := w) (Q := Q) (z := z) hg K
    have e1 : ¬ a 3 ≤ nI k := by rw [g3]; exact nI_ge hlt (by omega)
    have q0 := qB_0 hg hlt
    have q2 := qB_2 hg hlt
    have qp := qP_i hg ha (k := k) (c := cps a) hlt (by omega)
    have hlen := plK_len hg k
    rw [plG_ge (by omega) (by omega) (by omega)] at qp
    have cont : ∀ (h1 : List zC), h1.length = len → zCl h1 a n H sv S l f → ∀ v11 v12 v13 v14 : Value, Ev 69 285 [.ref 0, .int v1, .int v2, .int v3, .int (nI (cps a)), .int 0, .int 0, .int 1, .int (nI k), .int (a (41 + k)), .int 0, .int 0, v12, v13, v14] [] (h1, z) Q := by
      intro h1 hl1 C1 v11 v12 v13 v14
      refine l_kept2i (len := len) hg ha hlt (fun h' v10 v11 v12 v13 v14 hl' C' => ?_) (cps a) 0 h1 v12 v13 v14 (by omega) hl1 C1
      simp only [e69_436, e69_439, zpush, zopt_some, ↓reduceIte, List.getElem?_cons_succ, List.getElem?_cons_zero, beq_self_eq_true, true_and, and_true, Bool.true_and, Bool.and_true, Bool.false_and, Bool.and_false, nI_1, not_true_eq_false, not_false_eq_true, vp_narI]
      exact ih (k + 1) h' _ _ _ _ _ _ (by omega) hl' C'
    rw [e69_204]
    by_cases h0 : k = 0
    · have y0 : nI k = 0 := by rw [h0]; rfl
      have cont := cont
      rw [y0] at q0 q2 e1 cont ⊢
      simp only [e69_206, e69_207, e69_208, e69_211, e69_214, e69_216, e69_219, e69_220, e69_222, e69_223, e69_226, e69_228, e69_229, e69_231, e69_232, e69_234, e69_235, e69_238, e69_240, e69_243, e69_245, e69_248, e69_250, e69_251, e69_253, e69_254, e69_255, e69_256, e69_259, e69_262, e69_263, e69_265, e69_267, zpush, zopt_some, ↓reduceIte, List.getElem?_cons_succ, List.getElem?_cons_zero, beq_self_eq_true, true_and, and_true, Bool.true_and, Bool.and_true, Bool.false_and, Bool.and_false, nI_1, not_true_eq_false, not_false_eq_true, vp_narI, eq_self, o0, cC, qC_1, e1, x1, cB, q0, q2]
      refine c_D_place hg K (fun h1 F1 K1 => ?_)
      simp only [e69_270, e69_272, e69_275, e69_276, e69_279, e69_280, e69_282, e69_283, zpush, zopt_some, ↓reduceIte, List.getElem?_cons_succ, List.getElem?_cons_zero, beq_self_eq_true, true_and, and_true, Bool.true_and, Bool.and_true, Bool.false_and, Bool.and_false, nI_1, not_true_eq_false, not_false_eq_true, vp_narI, eq_self, qp]
      exact cont h1 (F1.1.trans hl) (hK.ko F1 K1) zU _ _ _
    · have y0 : ¬ nI k = 0 := nI_ne0 (by omega) (by omega)
      have ym : nI k - 1 = nI (k - 1) := by
        obtain ⟨m, hm⟩ : ∃ m, k = m + 1 := ⟨k - 1, by omega⟩
        rw [hm, nI_sub1, Nat.add_sub_cancel]
      have qq := qB_0 hg (k := k - 1) (by omega)
      have y1 : ¬ a (41 + k) ≤ a (41 + (k - 1)) := by
        have u := ha (k - 1) k (by omega) hlt
        have w1 := (hg.2.2.2.2.2.2 k hlt).1
        have w2 := (hg.2.2.2.2.2.2 (k - 1) (by omega)).1
        rw [w1.1, w2.1]
        exact nI_ge u (by omega)
      simp only [e69_206, e69_207, e69_208, e69_211, e69_214, e69_216, e69_219, e69_220, e69_222, e69_223, e69_226, e69_228, e69_229, e69_231, e69_232, e69_234, e69_235, e69_238, e69_240, e69_243, e69_245, e69_248, e69_250, e69_251, e69_253, e69_254, e69_255, e69_256, e69_259, e69_262, e69_263, e69_265, e69_267, zpush, zopt_some, ↓reduceIte, List.getElem?_cons_succ, List.getElem?_cons_zero, beq_self_eq_true, true_and, and_true, Bool.true_and, Bool.and_true, Bool.false_and, Bool.and_false, nI_1, not_true_eq_false, not_false_eq_true, vp_narI, eq_self, o0, cC, qC_1, e1, x1, cB, q0, q2, y0, ym, qq, y1]
      refine c_D_place hg K (fun h1 F1 K1 => ?_)
      simp only [e69_270, e69_272, e69_275, e69_276, e69_279, e69_280, e69_282, e69_283, zpush, zopt_some, ↓reduceIte, List.getElem?_cons_succ, List.getElem?_cons_zero, beq_self_eq_true, true_and, and_true, Bool.true_and, Bool.and_true, Bool.false_and, Bool.and_false, nI_1, not_true_eq_false, not_false_eq_true, vp_narI, eq_self, qp]
      exact cont h1 (F1.1.trans hl) (hK.ko F1 K1) zU _ _ _
theorem c_areKept (hg : zG a) (ha : asc a) (h0 : 0 < gN a 2) (hK : zCl h a n H sv S l f) (hQ : ∀ h' : List zC, h'.length = h.length → zCl h' a n H sv S l f → Q (some (.int 1)) (h', z)) :
    Ev 69 0 [.ref 0, zU, zU, zU, zU, zU, zU, zU, zU, zU, zU, zU, zU, zU, zU] [] (h, z) Q := by
  have o0 := hK.o
  have cC := fun (w : Int32) (Q : Option Value → zX → Prop) => c_D_count (w := w) (Q := Q) (z := z) hg hK
  obtain ⟨g3, b3⟩ := hg.2.2.2.1
  have b2 := hg.2.2.1.2
  have g0 := hg.1.1
  have c1 := hg.1.2
  have tt := tot_N hg (gN a 3)
  have nb := nbl_N hg (gN a 3)
  have em : nI (cps a) * nI (gN a 3) = nI (cps a * gN a 3) := pk_mul _ _
  have rest : ∀ v5 : Value, Ev 69 133 [.ref 0, .int (ntp a (gN a 2)), .int (nI (Mk a (gN a 2))), .int (nI (dif (Mk a (gN a 2)) 0)), .int (nI (gN a 2)), v5, zU, zU, zU, zU, zU, zU, zU, zU, zU] [.int (nI (cps a))] (h, z) Q := by
    intro v5
    have cont := l_kept2 (len := h.length) (z := z) (Q := Q) (n := n) (l := l) (H := H) (S := S) (sv := sv) (f := f) (v1 := ntp a (gN a 2)) (v2 := nI (Mk a (gN a 2))) (v3 := nI (dif (Mk a (gN a 2)) 0)) hg ha (fun h' v9 v10 v11 v12 v13 v14 hl' C' => by
      have := l_kept3 (z := z) (Q := Q) (v1 := ntp a (gN a 2)) (v2 := nI (Mk a (gN a 2))) (v3 := nI (dif (Mk a (gN a 2)) 0)) (v4 := nI (cps a)) (v7 := 1) (v9 := v9) (v10 := v10) (v11 := v11) (v12 := v12) (v13 := v13) (v14 := v14) hg C' (s_kept4 hg h0 C' (hQ h' hl' C')) (gN a 2) 0 (by omega)
      simp only [e69_442, e69_443, zpush, zopt_some, ↓reduceIte, List.getElem?_cons_succ, List.getElem?_cons_zero, beq_self_eq_true, true_and, and_true, Bool.true_and, Bool.and_true, Bool.false_and, Bool.and_false, nI_1, not_true_eq_false, not_false_eq_true, vp_narI]
      exact this) (gN a 3) 0 h zU zU zU zU zU zU (by omega) rfl hK
    by_cases hc : cps a < gN a 0
    · rw [if_pos hc] at nb
      have y1 : ¬ a 0 ≤ nI (cps a) := by rw [g0]; exact nI_ge hc (by omega)
      simp only [e69_133, e69_135, e69_136, e69_138, e69_139, e69_141, e69_142, e69_143, e69_146, e69_147, e69_150, e69_151, e69_152, e69_155, e69_157, e69_158, e69_159, e69_162, e69_163, e69_166, e69_167, e69_168, e69_171, e69_173, e69_174, e69_176, e69_179, e69_182, e69_183, e69_184, e69_187, e69_190, e69_191, e69_194, e69_195, e69_198, e69_199, e69_201, e69_202, zpush, zopt_some, ↓reduceIte, List.getElem?_cons_succ, List.getElem?_cons_zero, beq_self_eq_true, true_and, and_true, Bool.true_and, Bool.and_true, Bool.false_and, Bool.and_false, nI_1, not_true_eq_false, not_false_eq_true, vp_narI, eq_self, o0, cC, qC_1, qC_2, qC_3, qC_5, qC_8, tt, nb, g3, em, y1]
      exact cont
    · rw [if_neg hc] at nb
      have y1 : a 0 ≤ nI (cps a) := by rw [g0]; exact nI_le (by omega) (by unfold cps; omega)
      have z0 : nI 0 = 0 := rfl
      rw [z0] at nb
      simp only [e69_133, e69_135, e69_136, e69_138, e69_139, e69_141, e69_142, e69_143, e69_146, e69_147, e69_150, e69_151, e69_152, e69_155, e69_157, e69_158, e69_159, e69_162, e69_163, e69_166, e69_167, e69_168, e69_171, e69_173, e69_174, e69_176, e69_179, e69_182, e69_183, e69_184, e69_187, e69_190, e69_191, e69_194, e69_195, e69_198, e69_199, e69_201, e69_202, zpush, zopt_some, ↓reduceIte, List.getElem?_cons_succ, List.getElem?_cons_zero, beq_self_eq_true, true_and, and_true, Bool.true_and, Bool.and_true, Bool.false_and, Bool.and_false, nI_1, not_true_eq_false, not_false_eq_true, vp_narI, eq_self, o0, cC, qC_1, qC_2, qC_3, qC_5, qC_8, tt, nb, g3, em, y1]
      exact cont
  have start := l_kept1 (z := z) (Q := Q) (v6 := zU) (v7 := zU) (v8 := zU) (v9 := zU) (v10 := zU) (v11 := zU) (v12 := zU) (v13 := zU) (v14 := zU) hg hK (fun v5 => by
    have r := rest v5
    by_cases hd : gN a 0 ≤ dif (Mk a (gN a 2)) 0
    · have e : cps a = gN a 0 := by unfold cps; omega
      have hdb : dif (Mk a (gN a 2)) 0 < 2 ^ 31 := by
        have : dif (Mk a (gN a 2)) 0 ≤ 6 := by
          unfold dif
          exact Nat.le_trans (List.length_filter_le _ _) (by rw [List.length_range]; omega)
        omega
      have y1 : a 0 ≤ nI (dif (Mk a (gN a 2)) 0) := by rw [g0]; exact nI_le hd hdb
      rw [e, ← g0] at r
      simp only [e69_113, e69_114, e69_115, e69_117, e69_120, e69_123, e69_124, e69_127, e69_128, e69_130, zpush, zopt_some, ↓reduceIte, List.getElem?_cons_succ, List.getElem?_cons_zero, beq_self_eq_true, true_and, and_true, Bool.true_and, Bool.and_true, Bool.false_and, Bool.and_false, nI_1, not_true_eq_false, not_false_eq_true, vp_narI, o0, cC, qC_8, y1]
      exact r
    · have e : cps a = dif (Mk a (gN a 2)) 0 := by unfold cps; omega
      have y1 : ¬ a 0 ≤ nI (dif (Mk a (gN a 2)) 0) := by rw [g0]; exact nI_ge (by omega) (by omega)
      rw [e] at r
      simp only [e69_113, e69_114, e69_115, e69_117, e69_120, e69_123, e69_124, e69_127, e69_128, e69_130, zpush, zopt_some, ↓reduceIte, List.getElem?_cons_succ, List.getElem?_cons_zero, beq_self_eq_true, true_and, and_true, Bool.true_and, Bool.and_true, Bool.false_and, Bool.and_false, nI_1, not_true_eq_false, not_false_eq_true, vp_narI, o0, cC, qC_8, y1]
      exact r) (gN a 2) 0 zU (by omega)
  have m0 : Mk a 0 = 0 := rfl
  have d0 : dif 0 0 = 0 := by decide +kernel
  rw [m0, d0] at start
  simp only [e69_0, e69_1, e69_2, e69_3, e69_4, e69_5, e69_6, e69_7, zpush, zopt_some, ↓reduceIte, List.getElem?_cons_succ, List.getElem?_cons_zero, beq_self_eq_true, true_and, and_true, Bool.true_and, Bool.and_true, Bool.false_and, Bool.and_false, nI_1, not_true_eq_false, not_false_eq_true, vp_narI]
  exact start
end ZC
end
