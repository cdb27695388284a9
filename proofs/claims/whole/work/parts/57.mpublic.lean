/-! the model's public changes -/
section
set_option maxRecDepth 100000
/-- the model's history -/
def zHm (M : Nat → Nat → Int32) (n : Nat) (H : Nat → Nat → Int32) : Prop := M 3 0 = nI n ∧ n ≤ 6 ∧ ∀ j, j < n → ∀ k, k < 484 → M 2 (484 * j + k) = H j k
theorem recH_k {r : Int32} {n : Nat} {H H' : Nat → Nat → Int32} {a a' : Nat → Int32} (hn : n ≤ 6) (hH : ∀ j, j < n → ∀ k, k < 484 → H j k = H' j k) (ha : ∀ k, k < 484 → a k = a' k) : ∀ j, j < recN r n → ∀ k, k < 484 → recH r n H a j k = recH r n H' a' j k := by
  intro j hj k hk
  unfold recN at hj
  unfold recH
  by_cases hr : r < 0
  · rw [if_pos hr] at hj
    rw [if_pos hr, if_pos hr]; exact hH j hj k hk
  · rw [if_neg hr] at hj
    rw [if_neg hr, if_neg hr]
    unfold pshN at hj
    unfold pshH
    by_cases h6 : n < 6
    · rw [if_pos h6] at hj
      simp only [h6, ↓reduceIte]
      by_cases e : j = n
      · rw [if_pos e, if_pos e]; exact ha k hk
      · rw [if_neg e, if_neg e]; exact hH j (by omega) k hk
    · rw [if_neg h6] at hj
      simp only [h6, ↓reduceIte]
      by_cases e : j = 5
      · rw [if_pos e, if_pos e]; exact ha k hk
      · rw [if_neg e, if_neg e]; exact hH (j + 1) (by omega) k hk
theorem recN_le {r : Int32} {n : Nat} (hn : n ≤ 6) : recN r n ≤ 6 := by
  unfold recN pshN
  split
  · exact hn
  · split <;> omega
theorem zHm.k {M M' : Nat → Nat → Int32} {n : Nat} {H : Nat → Nat → Int32} (h : zHm M n H) (h2 : M' 2 = M 2) (h3 : M' 3 = M 3) : zHm M' n H := ⟨by rw [h3]; exact h.1, h.2.1, fun j hj k hk => by rw [h2]; exact h.2.2 j hj k hk⟩
section ZC
variable {h : List zC} {z : Nat × (Nat × (Nat → Int32))} {M : Nat → Nat → Int32} {Q : Option Value → zX → Prop} {n : Nat} {H : Nat → Nat → Int32}
theorem c_M_chg {r : Int32} {a : Nat → Int32} (hM : zMM h M) (hH : zHm M n H) (hk : ∀ q, q < 484 → M 1 q = a q) (hQ : ∀ h' M', zMv [2, 3] h M h' M' → zHm M' (recN r n) (recH r n H a) → Q (some (.int r)) (h', z)) :
    Ev 86 0 [.ref 108, .int r, zU] [] (h, z) Q :=
  c_M_changed hM hH.2.1 hH.1 (fun h' M' V E3 E2 => hQ h' M' V ⟨E3, recN_le hH.2.1, fun j hj k hk' => (E2 j hj k hk').trans (recH_k hH.2.1 hH.2.2 hk j hj k hk')⟩)
theorem c_M_set {s v : Int32} (hM : zMM h M) (hg : zG (M 0)) (hH : zHm M n H) (hQ : ∀ h' M', zMv [0, 1, 2, 3, 6, 7, 8, 9] h M h' M' → M' 0 = (chS (M 0) s v).2 → zHm M' (recN (chS (M 0) s v).1 n) (recH (chS (M 0) s v).1 n H (M 0)) → Q (some (.int (chS (M 0) s v).1)) (h', z)) :
    Ev 110 0 [.ref 108, .int s, .int v] [] (h, z) Q := by
  obtain ⟨o0, fd0, fd1, fd2, fd3, fd4, fd5, fd6, fd7, fd8, fd9, fd10, fd11, fd12, fd13, fd14, fd15, fd16, fd17, fd18, fd19, fd20, a0, a1, a2, a4, a5, a6, a7, a9, a10, a11, a14⟩ := hM.q
  simp only [e110_0, e110_1, e110_4, e110_5, e110_6, e110_7, e110_8, e110_11, e110_14, zpush, zopt_some, ↓reduceIte, List.getElem?_cons_succ, List.getElem?_cons_zero, beq_self_eq_true, true_and, and_true, Bool.true_and, Bool.and_true, Bool.false_and, Bool.and_false, nI_1, not_true_eq_false, not_false_eq_true, vp_narI, o0, ↓fd0, ↓fd1, ↓fd2, ↓fd3, ↓fd4, ↓fd5, ↓fd6, ↓fd7, ↓fd8, ↓fd9, ↓fd10, ↓fd11, ↓fd12, ↓fd13, ↓fd14, ↓fd15, ↓fd16, ↓fd17, ↓fd18, ↓fd19, ↓fd20]
  refine c_M_keep hM (fun h1 M1 V1 E1 => ?_)
  obtain ⟨o0, fd0, fd1, fd2, fd3, fd4, fd5, fd6, fd7, fd8, fd9, fd10, fd11, fd12, fd13, fd14, fd15, fd16, fd17, fd18, fd19, fd20, a0, a1, a2, a4, a5, a6, a7, a9, a10, a11, a14⟩ := V1.mm.q
  simp only [e110_0, e110_1, e110_4, e110_5, e110_6, e110_7, e110_8, e110_11, e110_14, zpush, zopt_some, ↓reduceIte, List.getElem?_cons_succ, List.getElem?_cons_zero, beq_self_eq_true, true_and, and_true, Bool.true_and, Bool.and_true, Bool.false_and, Bool.and_false, nI_1, not_true_eq_false, not_false_eq_true, vp_narI, o0, ↓fd0, ↓fd1, ↓fd2, ↓fd3, ↓fd4, ↓fd5, ↓fd6, ↓fd7, ↓fd8, ↓fd9, ↓fd10, ↓fd11, ↓fd12, ↓fd13, ↓fd14, ↓fd15, ↓fd16, ↓fd17, ↓fd18, ↓fd19, ↓fd20]
  refine c_M_doSet V1.mm hg (V1.k 0 rfl) (fun h2 M2 V2 E2 => ?_)
  obtain ⟨o0, fd0, fd1, fd2, fd3, fd4, fd5, fd6, fd7, fd8, fd9, fd10, fd11, fd12, fd13, fd14, fd15, fd16, fd17, fd18, fd19, fd20, a0, a1, a2, a4, a5, a6, a7, a9, a10, a11, a14⟩ := V2.mm.q
  have W2 := (V1.mono (T' := [0, 1, 2, 3, 6, 7, 8, 9]) rfl).to V2 rfl
  simp only [e110_0, e110_1, e110_4, e110_5, e110_6, e110_7, e110_8, e110_11, e110_14, zpush, zopt_some, ↓reduceIte, List.getElem?_cons_succ, List.getElem?_cons_zero, beq_self_eq_true, true_and, and_true, Bool.true_and, Bool.and_true, Bool.false_and, Bool.and_false, nI_1, not_true_eq_false, not_false_eq_true, vp_narI, o0, ↓fd0, ↓fd1, ↓fd2, ↓fd3, ↓fd4, ↓fd5, ↓fd6, ↓fd7, ↓fd8, ↓fd9, ↓fd10, ↓fd11, ↓fd12, ↓fd13, ↓fd14, ↓fd15, ↓fd16, ↓fd17, ↓fd18, ↓fd19, ↓fd20]
  refine c_M_chg (a := M 0) V2.mm (hH.k (by rw [V2.k 2 rfl, V1.k 2 rfl]) (by rw [V2.k 3 rfl, V1.k 3 rfl])) (fun q hq => by rw [V2.k 1 rfl]; exact E1 q hq) (fun h3 M3 V3 H3 => ?_)
  simp only [e110_0, e110_1, e110_4, e110_5, e110_6, e110_7, e110_8, e110_11, e110_14, zpush, zopt_some, ↓reduceIte, List.getElem?_cons_succ, List.getElem?_cons_zero, beq_self_eq_true, true_and, and_true, Bool.true_and, Bool.and_true, Bool.false_and, Bool.and_false, nI_1, not_true_eq_false, not_false_eq_true, vp_narI, o0, ↓fd0, ↓fd1, ↓fd2, ↓fd3, ↓fd4, ↓fd5, ↓fd6, ↓fd7, ↓fd8, ↓fd9, ↓fd10, ↓fd11, ↓fd12, ↓fd13, ↓fd14, ↓fd15, ↓fd16, ↓fd17, ↓fd18, ↓fd19, ↓fd20]
  exact hQ h3 M3 (W2.to V3 rfl) ((V3.k 0 rfl).trans E2) H3
theorem c_M_server {s v : Int32} (hM : zMM h M) (hg : zG (M 0)) (hH : zHm M n H) (hQ : ∀ h' M', zMv [0, 1, 2, 3, 6, 7, 8, 9] h M h' M' → M' 0 = (chB (M 0) s v).2 → zHm M' (recN (chB (M 0) s v).1 n) (recH (chB (M 0) s v).1 n H (M 0)) → Q (some (.int (chB (M 0) s v).1)) (h', z)) :
    Ev 111 0 [.ref 108, .int s, .int v] [] (h, z) Q := by
  obtain ⟨o0, fd0, fd1, fd2, fd3, fd4, fd5, fd6, fd7, fd8, fd9, fd10, fd11, fd12, fd13, fd14, fd15, fd16, fd17, fd18, fd19, fd20, a0, a1, a2, a4, a5, a6, a7, a9, a10, a11, a14⟩ := hM.q
  simp only [e111_0, e111_1, e111_4, e111_5, e111_6, e111_7, e111_8, e111_11, e111_14, zpush, zopt_some, ↓reduceIte, List.getElem?_cons_succ, List.getElem?_cons_zero, beq_self_eq_true, true_and, and_true, Bool.true_and, Bool.and_true, Bool.false_and, Bool.and_false, nI_1, not_true_eq_false, not_false_eq_true, vp_narI, o0, ↓fd0, ↓fd1, ↓fd2, ↓fd3, ↓fd4, ↓fd5, ↓fd6, ↓fd7, ↓fd8, ↓fd9, ↓fd10, ↓fd11, ↓fd12, ↓fd13, ↓fd14, ↓fd15, ↓fd16, ↓fd17, ↓fd18, ↓fd19, ↓fd20]
  refine c_M_keep hM (fun h1 M1 V1 E1 => ?_)
  obtain ⟨o0, fd0, fd1, fd2, fd3, fd4, fd5, fd6, fd7, fd8, fd9, fd10, fd11, fd12, fd13, fd14, fd15, fd16, fd17, fd18, fd19, fd20, a0, a1, a2, a4, a5, a6, a7, a9, a10, a11, a14⟩ := V1.mm.q
  simp only [e111_0, e111_1, e111_4, e111_5, e111_6, e111_7, e111_8, e111_11, e111_14, zpush, zopt_some, ↓reduceIte, List.getElem?_cons_succ, List.getElem?_cons_zero, beq_self_eq_true, true_and, and_true, Bool.true_and, Bool.and_true, Bool.false_and, Bool.and_false, nI_1, not_true_eq_false, not_false_eq_true, vp_narI, o0, ↓fd0, ↓fd1, ↓fd2, ↓fd3, ↓fd4, ↓fd5, ↓fd6, ↓fd7, ↓fd8, ↓fd9, ↓fd10, ↓fd11, ↓fd12, ↓fd13, ↓fd14, ↓fd15, ↓fd16, ↓fd17, ↓fd18, ↓fd19, ↓fd20]
  refine c_M_doServer V1.mm hg (V1.k 0 rfl) (fun h2 M2 V2 E2 => ?_)
  obtain ⟨o0, fd0, fd1, fd2, fd3, fd4, fd5, fd6, fd7, fd8, fd9, fd10, fd11, fd12, fd13, fd14, fd15, fd16, fd17, fd18, fd19, fd20, a0, a1, a2, a4, a5, a6, a7, a9, a10, a11, a14⟩ := V2.mm.q
  have W2 := (V1.mono (T' := [0, 1, 2, 3, 6, 7, 8, 9]) rfl).to V2 rfl
  simp only [e111_0, e111_1, e111_4, e111_5, e111_6, e111_7, e111_8, e111_11, e111_14, zpush, zopt_some, ↓reduceIte, List.getElem?_cons_succ, List.getElem?_cons_zero, beq_self_eq_true, true_and, and_true, Bool.true_and, Bool.and_true, Bool.false_and, Bool.and_false, nI_1, not_true_eq_false, not_false_eq_true, vp_narI, o0, ↓fd0, ↓fd1, ↓fd2, ↓fd3, ↓fd4, ↓fd5, ↓fd6, ↓fd7, ↓fd8, ↓fd9, ↓fd10, ↓fd11, ↓fd12, ↓fd13, ↓fd14, ↓fd15, ↓fd16, ↓fd17, ↓fd18, ↓fd19, ↓fd20]
  refine c_M_chg (a := M 0) V2.mm (hH.k (by rw [V2.k 2 rfl, V1.k 2 rfl]) (by rw [V2.k 3 rfl, V1.k 3 rfl])) (fun q hq => by rw [V2.k 1 rfl]; exact E1 q hq) (fun h3 M3 V3 H3 => ?_)
  simp only [e111_0, e111_1, e111_4, e111_5, e111_6, e111_7, e111_8, e111_11, e111_14, zpush, zopt_some, ↓reduceIte, List.getElem?_cons_succ, List.getElem?_cons_zero, beq_self_eq_true, true_and, and_true, Bool.true_and, Bool.and_true, Bool.false_and, Bool.and_false, nI_1, not_true_eq_false, not_false_eq_true, vp_narI, o0, ↓fd0, ↓fd1, ↓fd2, ↓fd3, ↓fd4, ↓fd5, ↓fd6, ↓fd7, ↓fd8, ↓fd9, ↓fd10, ↓fd11, ↓fd12, ↓fd13, ↓fd14, ↓fd15, ↓fd16, ↓fd17, ↓fd18, ↓fd19, ↓fd20]
  exact hQ h3 M3 (W2.to V3 rfl) ((V3.k 0 rfl).trans E2) H3
theorem c_M_weigh {s v : Int32} (hM : zMM h M) (hg : zG (M 0)) (hH : zHm M n H) (hQ : ∀ h' M', zMv [0, 1, 2, 3, 6, 7, 8, 9] h M h' M' → M' 0 = (chW (M 0) s v).2 → zHm M' (recN (chW (M 0) s v).1 n) (recH (chW (M 0) s v).1 n H (M 0)) → Q (some (.int (chW (M 0) s v).1)) (h', z)) :
    Ev 112 0 [.ref 108, .int s, .int v] [] (h, z) Q := by
  obtain ⟨o0, fd0, fd1, fd2, fd3, fd4, fd5, fd6, fd7, fd8, fd9, fd10, fd11, fd12, fd13, fd14, fd15, fd16, fd17, fd18, fd19, fd20, a0, a1, a2, a4, a5, a6, a7, a9, a10, a11, a14⟩ := hM.q
  simp only [e112_0, e112_1, e112_4, e112_5, e112_6, e112_7, e112_8, e112_11, e112_14, zpush, zopt_some, ↓reduceIte, List.getElem?_cons_succ, List.getElem?_cons_zero, beq_self_eq_true, true_and, and_true, Bool.true_and, Bool.and_true, Bool.false_and, Bool.and_false, nI_1, not_true_eq_false, not_false_eq_true, vp_narI, o0, ↓fd0, ↓fd1, ↓fd2, ↓fd3, ↓fd4, ↓fd5, ↓fd6, ↓fd7, ↓fd8, ↓fd9, ↓fd10, ↓fd11, ↓fd12, ↓fd13, ↓fd14, ↓fd15, ↓fd16, ↓fd17, ↓fd18, ↓fd19, ↓fd20]
  refine c_M_keep hM (fun h1 M1 V1 E1 => ?_)
  obtain ⟨o0, fd0, fd1, fd2, fd3, fd4, fd5, fd6, fd7, fd8, fd9, fd10, fd11, fd12, fd13, fd14, fd15, fd16, fd17, fd18, fd19, fd20, a0, a1, a2, a4, a5, a6, a7, a9, a10, a11, a14⟩ := V1.mm.q
  simp only [e112_0, e112_1, e112_4, e112_5, e112_6, e112_7, e112_8, e112_11, e112_14, zpush, zopt_some, ↓reduceIte, List.getElem?_cons_succ, List.getElem?_cons_zero, beq_self_eq_true, true_and, and_true, Bool.true_and, Bool.and_true, Bool.false_and, Bool.and_false, nI_1, not_true_eq_false, not_false_eq_true, vp_narI, o0, ↓fd0, ↓fd1, ↓fd2, ↓fd3, ↓fd4, ↓fd5, ↓fd6, ↓fd7, ↓fd8, ↓fd9, ↓fd10, ↓fd11, ↓fd12, ↓fd13, ↓fd14, ↓fd15, ↓fd16, ↓fd17, ↓fd18, ↓fd19, ↓fd20]
  refine c_M_doWeigh V1.mm hg (V1.k 0 rfl) (fun h2 M2 V2 E2 => ?_)
  obtain ⟨o0, fd0, fd1, fd2, fd3, fd4, fd5, fd6, fd7, fd8, fd9, fd10, fd11, fd12, fd13, fd14, fd15, fd16, fd17, fd18, fd19, fd20, a0, a1, a2, a4, a5, a6, a7, a9, a10, a11, a14⟩ := V2.mm.q
  have W2 := (V1.mono (T' := [0, 1, 2, 3, 6, 7, 8, 9]) rfl).to V2 rfl
  simp only [e112_0, e112_1, e112_4, e112_5, e112_6, e112_7, e112_8, e112_11, e112_14, zpush, zopt_some, ↓reduceIte, List.getElem?_cons_succ, List.getElem?_cons_zero, beq_self_eq_true, true_and, and_true, Bool.true_and, Bool.and_true, Bool.false_and, Bool.and_false, nI_1, not_true_eq_false, not_false_eq_true, vp_narI, o0, ↓fd0, ↓fd1, ↓fd2, ↓fd3, ↓fd4, ↓fd5, ↓fd6, ↓fd7, ↓fd8, ↓fd9, ↓fd10, ↓fd11, ↓fd12, ↓fd13, ↓fd14, ↓fd15, ↓fd16, ↓fd17, ↓fd18, ↓fd19, ↓fd20]
  refine c_M_chg (a := M 0) V2.mm (hH.k (by rw [V2.k 2 rfl, V1.k 2 rfl]) (by rw [V2.k 3 rfl, V1.k 3 rfl])) (fun q hq => by rw [V2.k 1 rfl]; exact E1 q hq) (fun h3 M3 V3 H3 => ?_)
  simp only [e112_0, e112_1, e112_4, e112_5, e112_6, e112_7, e112_8, e112_11, e112_14, zpush, zopt_some, ↓reduceIte, List.getElem?_cons_succ, List.getElem?_cons_zero, beq_self_eq_true, true_and, and_true, Bool.true_and, Bool.and_true, Bool.false_and, Bool.and_false, nI_1, not_true_eq_false, not_false_eq_true, vp_narI, o0, ↓fd0, ↓fd1, ↓fd2, ↓fd3, ↓fd4, ↓fd5, ↓fd6, ↓fd7, ↓fd8, ↓fd9, ↓fd10, ↓fd11, ↓fd12, ↓fd13, ↓fd14, ↓fd15, ↓fd16, ↓fd17, ↓fd18, ↓fd19, ↓fd20]
  exact hQ h3 M3 (W2.to V3 rfl) ((V3.k 0 rfl).trans E2) H3
theorem c_M_toRack {s v : Int32} (hM : zMM h M) (hg : zG (M 0)) (hH : zHm M n H) (hQ : ∀ h' M', zMv [0, 1, 2, 3, 6, 7, 8, 9] h M h' M' → M' 0 = (chR (M 0) s v).2 → zHm M' (recN (chR (M 0) s v).1 n) (recH (chR (M 0) s v).1 n H (M 0)) → Q (some (.int (chR (M 0) s v).1)) (h', z)) :
    Ev 113 0 [.ref 108, .int s, .int v] [] (h, z) Q := by
  obtain ⟨o0, fd0, fd1, fd2, fd3, fd4, fd5, fd6, fd7, fd8, fd9, fd10, fd11, fd12, fd13, fd14, fd15, fd16, fd17, fd18, fd19, fd20, a0, a1, a2, a4, a5, a6, a7, a9, a10, a11, a14⟩ := hM.q
  simp only [e113_0, e113_1, e113_4, e113_5, e113_6, e113_7, e113_8, e113_11, e113_14, zpush, zopt_some, ↓reduceIte, List.getElem?_cons_succ, List.getElem?_cons_zero, beq_self_eq_true, true_and, and_true, Bool.true_and, Bool.and_true, Bool.false_and, Bool.and_false, nI_1, not_true_eq_false, not_false_eq_true, vp_narI, o0, ↓fd0, ↓fd1, ↓fd2, ↓fd3, ↓fd4, ↓fd5, ↓fd6, ↓fd7, ↓fd8, ↓fd9, ↓fd10, ↓fd11, ↓fd12, ↓fd13, ↓fd14, ↓fd15, ↓fd16, ↓fd17, ↓fd18, ↓fd19, ↓fd20]
  refine c_M_keep hM (fun h1 M1 V1 E1 => ?_)
  obtain ⟨o0, fd0, fd1, fd2, fd3, fd4, fd5, fd6, fd7, fd8, fd9, fd10, fd11, fd12, fd13, fd14, fd15, fd16, fd17, fd18, fd19, fd20, a0, a1, a2, a4, a5, a6, a7, a9, a10, a11, a14⟩ := V1.mm.q
  simp only [e113_0, e113_1, e113_4, e113_5, e113_6, e113_7, e113_8, e113_11, e113_14, zpush, zopt_some, ↓reduceIte, List.getElem?_cons_succ, List.getElem?_cons_zero, beq_self_eq_true, true_and, and_true, Bool.true_and, Bool.and_true, Bool.false_and, Bool.and_false, nI_1, not_true_eq_false, not_false_eq_true, vp_narI, o0, ↓fd0, ↓fd1, ↓fd2, ↓fd3, ↓fd4, ↓fd5, ↓fd6, ↓fd7, ↓fd8, ↓fd9, ↓fd10, ↓fd11, ↓fd12, ↓fd13, ↓fd14, ↓fd15, ↓fd16, ↓fd17, ↓fd18, ↓fd19, ↓fd20]
  refine c_M_doToRack V1.mm hg (V1.k 0 rfl) (fun h2 M2 V2 E2 => ?_)
  obtain ⟨o0, fd0, fd1, fd2, fd3, fd4, fd5, fd6, fd7, fd8, fd9, fd10, fd11, fd12, fd13, fd14, fd15, fd16, fd17, fd18, fd19, fd20, a0, a1, a2, a4, a5, a6, a7, a9, a10, a11, a14⟩ := V2.mm.q
  have W2 := (V1.mono (T' := [0, 1, 2, 3, 6, 7, 8, 9]) rfl).to V2 rfl
  simp only [e113_0, e113_1, e113_4, e113_5, e113_6, e113_7, e113_8, e113_11, e113_14, zpush, zopt_some, ↓reduceIte, List.getElem?_cons_succ, List.getElem?_cons_zero, beq_self_eq_true, true_and, and_true, Bool.true_and, Bool.and_true, Bool.false_and, Bool.and_false, nI_1, not_true_eq_false, not_false_eq_true, vp_narI, o0, ↓fd0, ↓fd1, ↓fd2, ↓fd3, ↓fd4, ↓fd5, ↓fd6, ↓fd7, ↓fd8, ↓fd9, ↓fd10, ↓fd11, ↓fd12, ↓fd13, ↓fd14, ↓fd15, ↓fd16, ↓fd17, ↓fd18, ↓fd19, ↓fd20]
  refine c_M_chg (a := M 0) V2.mm (hH.k (by rw [V2.k 2 rfl, V1.k 2 rfl]) (by rw [V2.k 3 rfl, V1.k 3 rfl])) (fun q hq => by rw [V2.k 1 rfl]; exact E1 q hq) (fun h3 M3 V3 H3 => ?_)
  simp only [e113_0, e113_1, e113_4, e113_5, e113_6, e113_7, e113_8, e113_11, e113_14, zpush, zopt_some, ↓reduceIte, List.getElem?_cons_succ, List.getElem?_cons_zero, beq_self_eq_true, true_and, and_true, Bool.true_and, Bool.and_true, Bool.false_and, Bool.and_false, nI_1, not_true_eq_false, not_false_eq_true, vp_narI, o0, ↓fd0, ↓fd1, ↓fd2, ↓fd3, ↓fd4, ↓fd5, ↓fd6, ↓fd7, ↓fd8, ↓fd9, ↓fd10, ↓fd11, ↓fd12, ↓fd13, ↓fd14, ↓fd15, ↓fd16, ↓fd17, ↓fd18, ↓fd19, ↓fd20]
  exact hQ h3 M3 (W2.to V3 rfl) ((V3.k 0 rfl).trans E2) H3
theorem c_M_store {s : Int32} (hM : zMM h M) (hg : zG (M 0)) (hH : zHm M n H) (hQ : ∀ h' M', zMv [0, 1, 2, 3, 6, 7, 8, 9] h M h' M' → M' 0 = (chK (M 0) s).2 → zHm M' (recN (chK (M 0) s).1 n) (recH (chK (M 0) s).1 n H (M 0)) → Q (some (.int (chK (M 0) s).1)) (h', z)) :
    Ev 115 0 [.ref 108, .int s] [] (h, z) Q := by
  obtain ⟨o0, fd0, fd1, fd2, fd3, fd4, fd5, fd6, fd7, fd8, fd9, fd10, fd11, fd12, fd13, fd14, fd15, fd16, fd17, fd18, fd19, fd20, a0, a1, a2, a4, a5, a6, a7, a9, a10, a11, a14⟩ := hM.q
  simp only [e115_0, e115_1, e115_4, e115_5, e115_6, e115_7, e115_10, e115_13, zpush, zopt_some, ↓reduceIte, List.getElem?_cons_succ, List.getElem?_cons_zero, beq_self_eq_true, true_and, and_true, Bool.true_and, Bool.and_true, Bool.false_and, Bool.and_false, nI_1, not_true_eq_false, not_false_eq_true, vp_narI, o0, ↓fd0, ↓fd1, ↓fd2, ↓fd3, ↓fd4, ↓fd5, ↓fd6, ↓fd7, ↓fd8, ↓fd9, ↓fd10, ↓fd11, ↓fd12, ↓fd13, ↓fd14, ↓fd15, ↓fd16, ↓fd17, ↓fd18, ↓fd19, ↓fd20]
  refine c_M_keep hM (fun h1 M1 V1 E1 => ?_)
  obtain ⟨o0, fd0, fd1, fd2, fd3, fd4, fd5, fd6, fd7, fd8, fd9, fd10, fd11, fd12, fd13, fd14, fd15, fd16, fd17, fd18, fd19, fd20, a0, a1, a2, a4, a5, a6, a7, a9, a10, a11, a14⟩ := V1.mm.q
  simp only [e115_0, e115_1, e115_4, e115_5, e115_6, e115_7, e115_10, e115_13, zpush, zopt_some, ↓reduceIte, List.getElem?_cons_succ, List.getElem?_cons_zero, beq_self_eq_true, true_and, and_true, Bool.true_and, Bool.and_true, Bool.false_and, Bool.and_false, nI_1, not_true_eq_false, not_false_eq_true, vp_narI, o0, ↓fd0, ↓fd1, ↓fd2, ↓fd3, ↓fd4, ↓fd5, ↓fd6, ↓fd7, ↓fd8, ↓fd9, ↓fd10, ↓fd11, ↓fd12, ↓fd13, ↓fd14, ↓fd15, ↓fd16, ↓fd17, ↓fd18, ↓fd19, ↓fd20]
  refine c_M_doStore V1.mm hg (V1.k 0 rfl) (fun h2 M2 V2 E2 => ?_)
  obtain ⟨o0, fd0, fd1, fd2, fd3, fd4, fd5, fd6, fd7, fd8, fd9, fd10, fd11, fd12, fd13, fd14, fd15, fd16, fd17, fd18, fd19, fd20, a0, a1, a2, a4, a5, a6, a7, a9, a10, a11, a14⟩ := V2.mm.q
  have W2 := (V1.mono (T' := [0, 1, 2, 3, 6, 7, 8, 9]) rfl).to V2 rfl
  simp only [e115_0, e115_1, e115_4, e115_5, e115_6, e115_7, e115_10, e115_13, zpush, zopt_some, ↓reduceIte, List.getElem?_cons_succ, List.getElem?_cons_zero, beq_self_eq_true, true_and, and_true, Bool.true_and, Bool.and_true, Bool.false_and, Bool.and_false, nI_1, not_true_eq_false, not_false_eq_true, vp_narI, o0, ↓fd0, ↓fd1, ↓fd2, ↓fd3, ↓fd4, ↓fd5, ↓fd6, ↓fd7, ↓fd8, ↓fd9, ↓fd10, ↓fd11, ↓fd12, ↓fd13, ↓fd14, ↓fd15, ↓fd16, ↓fd17, ↓fd18, ↓fd19, ↓fd20]
  refine c_M_chg (a := M 0) V2.mm (hH.k (by rw [V2.k 2 rfl, V1.k 2 rfl]) (by rw [V2.k 3 rfl, V1.k 3 rfl])) (fun q hq => by rw [V2.k 1 rfl]; exact E1 q hq) (fun h3 M3 V3 H3 => ?_)
  simp only [e115_0, e115_1, e115_4, e115_5, e115_6, e115_7, e115_10, e115_13, zpush, zopt_some, ↓reduceIte, List.getElem?_cons_succ, List.getElem?_cons_zero, beq_self_eq_true, true_and, and_true, Bool.true_and, Bool.and_true, Bool.false_and, Bool.and_false, nI_1, not_true_eq_false, not_false_eq_true, vp_narI, o0, ↓fd0, ↓fd1, ↓fd2, ↓fd3, ↓fd4, ↓fd5, ↓fd6, ↓fd7, ↓fd8, ↓fd9, ↓fd10, ↓fd11, ↓fd12, ↓fd13, ↓fd14, ↓fd15, ↓fd16, ↓fd17, ↓fd18, ↓fd19, ↓fd20]
  exact hQ h3 M3 (W2.to V3 rfl) ((V3.k 0 rfl).trans E2) H3
theorem c_M_drop {s : Int32} (hM : zMM h M) (hg : zG (M 0)) (hH : zHm M n H) (hQ : ∀ h' M', zMv [0, 1, 2, 3, 6, 7, 8, 9] h M h' M' → M' 0 = (chX (M 0) s).2 → zHm M' (recN (chX (M 0) s).1 n) (recH (chX (M 0) s).1 n H (M 0)) → Q (some (.int (chX (M 0) s).1)) (h', z)) :
    Ev 116 0 [.ref 108, .int s] [] (h, z) Q := by
  obtain ⟨o0, fd0, fd1, fd2, fd3, fd4, fd5, fd6, fd7, fd8, fd9, fd10, fd11, fd12, fd13, fd14, fd15, fd16, fd17, fd18, fd19, fd20, a0, a1, a2, a4, a5, a6, a7, a9, a10, a11, a14⟩ := hM.q
  simp only [e116_0, e116_1, e116_4, e116_5, e116_6, e116_7, e116_10, e116_13, zpush, zopt_some, ↓reduceIte, List.getElem?_cons_succ, List.getElem?_cons_zero, beq_self_eq_true, true_and, and_true, Bool.true_and, Bool.and_true, Bool.false_and, Bool.and_false, nI_1, not_true_eq_false, not_false_eq_true, vp_narI, o0, ↓fd0, ↓fd1, ↓fd2, ↓fd3, ↓fd4, ↓fd5, ↓fd6, ↓fd7, ↓fd8, ↓fd9, ↓fd10, ↓fd11, ↓fd12, ↓fd13, ↓fd14, ↓fd15, ↓fd16, ↓fd17, ↓fd18, ↓fd19, ↓fd20]
  refine c_M_keep hM (fun h1 M1 V1 E1 => ?_)
  obtain ⟨o0, fd0, fd1, fd2, fd3, fd4, fd5, fd6, fd7, fd8, fd9, fd10, fd11, fd12, fd13, fd14, fd15, fd16, fd17, fd18, fd19, fd20, a0, a1, a2, a4, a5, a6, a7, a9, a10, a11, a14⟩ := V1.mm.q
  simp only [e116_0, e116_1, e116_4, e116_5, e116_6, e116_7, e116_10, e116_13, zpush, zopt_some, ↓reduceIte, List.getElem?_cons_succ, List.getElem?_cons_zero, beq_self_eq_true, true_and, and_true, Bool.true_and, Bool.and_true, Bool.false_and, Bool.and_false, nI_1, not_true_eq_false, not_false_eq_true, vp_narI, o0, ↓fd0, ↓fd1, ↓fd2, ↓fd3, ↓fd4, ↓fd5, ↓fd6, ↓fd7, ↓fd8, ↓fd9, ↓fd10, ↓fd11, ↓fd12, ↓fd13, ↓fd14, ↓fd15, ↓fd16, ↓fd17, ↓fd18, ↓fd19, ↓fd20]
  refine c_M_doDrop V1.mm hg (V1.k 0 rfl) (fun h2 M2 V2 E2 => ?_)
  obtain ⟨o0, fd0, fd1, fd2, fd3, fd4, fd5, fd6, fd7, fd8, fd9, fd10, fd11, fd12, fd13, fd14, fd15, fd16, fd17, fd18, fd19, fd20, a0, a1, a2, a4, a5, a6, a7, a9, a10, a11, a14⟩ := V2.mm.q
  have W2 := (V1.mono (T' := [0, 1, 2, 3, 6, 7, 8, 9]) rfl).to V2 rfl
  simp only [e116_0, e116_1, e116_4, e116_5, e116_6, e116_7, e116_10, e116_13, zpush, zopt_some, ↓reduceIte, List.getElem?_cons_succ, List.getElem?_cons_zero, beq_self_eq_true, true_and, and_true, Bool.true_and, Bool.and_true, Bool.false_and, Bool.and_false, nI_1, not_true_eq_false, not_false_eq_true, vp_narI, o0, ↓fd0, ↓fd1, ↓fd2, ↓fd3, ↓fd4, ↓fd5, ↓fd6, ↓fd7, ↓fd8, ↓fd9, ↓fd10, ↓fd11, ↓fd12, ↓fd13, ↓fd14, ↓fd15, ↓fd16, ↓fd17, ↓fd18, ↓fd19, ↓fd20]
  refine c_M_chg (a := M 0) V2.mm (hH.k (by rw [V2.k 2 rfl, V1.k 2 rfl]) (by rw [V2.k 3 rfl, V1.k 3 rfl])) (fun q hq => by rw [V2.k 1 rfl]; exact E1 q hq) (fun h3 M3 V3 H3 => ?_)
  simp only [e116_0, e116_1, e116_4, e116_5, e116_6, e116_7, e116_10, e116_13, zpush, zopt_some, ↓reduceIte, List.getElem?_cons_succ, List.getElem?_cons_zero, beq_self_eq_true, true_and, and_true, Bool.true_and, Bool.and_true, Bool.false_and, Bool.and_false, nI_1, not_true_eq_false, not_false_eq_true, vp_narI, o0, ↓fd0, ↓fd1, ↓fd2, ↓fd3, ↓fd4, ↓fd5, ↓fd6, ↓fd7, ↓fd8, ↓fd9, ↓fd10, ↓fd11, ↓fd12, ↓fd13, ↓fd14, ↓fd15, ↓fd16, ↓fd17, ↓fd18, ↓fd19, ↓fd20]
  exact hQ h3 M3 (W2.to V3 rfl) ((V3.k 0 rfl).trans E2) H3
theorem c_M_pin {s v : Int32} (hM : zMM h M) (hg : zG (M 0)) (hH : zHm M n H) (hQ : ∀ h' M', zMv [0, 1, 2, 3, 6, 7, 8, 9] h M h' M' → M' 0 = (chP (M 0) s v).2 → zHm M' (recN (chP (M 0) s v).1 n) (recH (chP (M 0) s v).1 n H (M 0)) → Q (some (.int (chP (M 0) s v).1)) (h', z)) :
    Ev 117 0 [.ref 108, .int s, .int v] [] (h, z) Q := by
  obtain ⟨o0, fd0, fd1, fd2, fd3, fd4, fd5, fd6, fd7, fd8, fd9, fd10, fd11, fd12, fd13, fd14, fd15, fd16, fd17, fd18, fd19, fd20, a0, a1, a2, a4, a5, a6, a7, a9, a10, a11, a14⟩ := hM.q
  simp only [e117_0, e117_1, e117_4, e117_5, e117_6, e117_7, e117_8, e117_11, e117_14, zpush, zopt_some, ↓reduceIte, List.getElem?_cons_succ, List.getElem?_cons_zero, beq_self_eq_true, true_and, and_true, Bool.true_and, Bool.and_true, Bool.false_and, Bool.and_false, nI_1, not_true_eq_false, not_false_eq_true, vp_narI, o0, ↓fd0, ↓fd1, ↓fd2, ↓fd3, ↓fd4, ↓fd5, ↓fd6, ↓fd7, ↓fd8, ↓fd9, ↓fd10, ↓fd11, ↓fd12, ↓fd13, ↓fd14, ↓fd15, ↓fd16, ↓fd17, ↓fd18, ↓fd19, ↓fd20]
  refine c_M_keep hM (fun h1 M1 V1 E1 => ?_)
  obtain ⟨o0, fd0, fd1, fd2, fd3, fd4, fd5, fd6, fd7, fd8, fd9, fd10, fd11, fd12, fd13, fd14, fd15, fd16, fd17, fd18, fd19, fd20, a0, a1, a2, a4, a5, a6, a7, a9, a10, a11, a14⟩ := V1.mm.q
  simp only [e117_0, e117_1, e117_4, e117_5, e117_6, e117_7, e117_8, e117_11, e117_14, zpush, zopt_some, ↓reduceIte, List.getElem?_cons_succ, List.getElem?_cons_zero, beq_self_eq_true, true_and, and_true, Bool.true_and, Bool.and_true, Bool.false_and, Bool.and_false, nI_1, not_true_eq_false, not_false_eq_true, vp_narI, o0, ↓fd0, ↓fd1, ↓fd2, ↓fd3, ↓fd4, ↓fd5, ↓fd6, ↓fd7, ↓fd8, ↓fd9, ↓fd10, ↓fd11, ↓fd12, ↓fd13, ↓fd14, ↓fd15, ↓fd16, ↓fd17, ↓fd18, ↓fd19, ↓fd20]
  refine c_M_doPin V1.mm hg (V1.k 0 rfl) (fun h2 M2 V2 E2 => ?_)
  obtain ⟨o0, fd0, fd1, fd2, fd3, fd4, fd5, fd6, fd7, fd8, fd9, fd10, fd11, fd12, fd13, fd14, fd15, fd16, fd17, fd18, fd19, fd20, a0, a1, a2, a4, a5, a6, a7, a9, a10, a11, a14⟩ := V2.mm.q
  have W2 := (V1.mono (T' := [0, 1, 2, 3, 6, 7, 8, 9]) rfl).to V2 rfl
  simp only [e117_0, e117_1, e117_4, e117_5, e117_6, e117_7, e117_8, e117_11, e117_14, zpush, zopt_some, ↓reduceIte, List.getElem?_cons_succ, List.getElem?_cons_zero, beq_self_eq_true, true_and, and_true, Bool.true_and, Bool.and_true, Bool.false_and, Bool.and_false, nI_1, not_true_eq_false, not_false_eq_true, vp_narI, o0, ↓fd0, ↓fd1, ↓fd2, ↓fd3, ↓fd4, ↓fd5, ↓fd6, ↓fd7, ↓fd8, ↓fd9, ↓fd10, ↓fd11, ↓fd12, ↓fd13, ↓fd14, ↓fd15, ↓fd16, ↓fd17, ↓fd18, ↓fd19, ↓fd20]
  refine c_M_chg (a := M 0) V2.mm (hH.k (by rw [V2.k 2 rfl, V1.k 2 rfl]) (by rw [V2.k 3 rfl, V1.k 3 rfl])) (fun q hq => by rw [V2.k 1 rfl]; exact E1 q hq) (fun h3 M3 V3 H3 => ?_)
  simp only [e117_0, e117_1, e117_4, e117_5, e117_6, e117_7, e117_8, e117_11, e117_14, zpush, zopt_some, ↓reduceIte, List.getElem?_cons_succ, List.getElem?_cons_zero, beq_self_eq_true, true_and, and_true, Bool.true_and, Bool.and_true, Bool.false_and, Bool.and_false, nI_1, not_true_eq_false, not_false_eq_true, vp_narI, o0, ↓fd0, ↓fd1, ↓fd2, ↓fd3, ↓fd4, ↓fd5, ↓fd6, ↓fd7, ↓fd8, ↓fd9, ↓fd10, ↓fd11, ↓fd12, ↓fd13, ↓fd14, ↓fd15, ↓fd16, ↓fd17, ↓fd18, ↓fd19, ↓fd20]
  exact hQ h3 M3 (W2.to V3 rfl) ((V3.k 0 rfl).trans E2) H3
theorem c_M_down {s v : Int32} (hM : zMM h M) (hg : zG (M 0)) (hv : v = 0 ∨ v = 1) (hH : zHm M n H) (hQ : ∀ h' M', zMv [0, 1, 2, 3, 6, 7, 8, 9] h M h' M' → M' 0 = (chD (M 0) s v).2 → zHm M' (recN (chD (M 0) s v).1 n) (recH (chD (M 0) s v).1 n H (M 0)) → Q (some (.int (chD (M 0) s v).1)) (h', z)) :
    Ev 114 0 [.ref 108, .int s, .int v] [] (h, z) Q := by
  obtain ⟨o0, fd0, fd1, fd2, fd3, fd4, fd5, fd6, fd7, fd8, fd9, fd10, fd11, fd12, fd13, fd14, fd15, fd16, fd17, fd18, fd19, fd20, a0, a1, a2, a4, a5, a6, a7, a9, a10, a11, a14⟩ := hM.q
  simp only [e114_0, e114_1, e114_4, e114_5, e114_6, e114_7, e114_8, e114_11, e114_12, e114_15, e114_19, e114_22, zpush, zopt_some, ↓reduceIte, List.getElem?_cons_succ, List.getElem?_cons_zero, beq_self_eq_true, true_and, and_true, Bool.true_and, Bool.and_true, Bool.false_and, Bool.and_false, nI_1, not_true_eq_false, not_false_eq_true, vp_narI, o0, ↓fd0, ↓fd1, ↓fd2, ↓fd3, ↓fd4, ↓fd5, ↓fd6, ↓fd7, ↓fd8, ↓fd9, ↓fd10, ↓fd11, ↓fd12, ↓fd13, ↓fd14, ↓fd15, ↓fd16, ↓fd17, ↓fd18, ↓fd19, ↓fd20]
  refine c_M_keep hM (fun h1 M1 V1 E1 => ?_)
  obtain ⟨o0, fd0, fd1, fd2, fd3, fd4, fd5, fd6, fd7, fd8, fd9, fd10, fd11, fd12, fd13, fd14, fd15, fd16, fd17, fd18, fd19, fd20, a0, a1, a2, a4, a5, a6, a7, a9, a10, a11, a14⟩ := V1.mm.q
  have key : Ev 114 16 [.ref 108, .int s, .int v] [.int v, .int s, .ref 108, .ref 108] (h1, z) Q := by
    simp only [e114_0, e114_1, e114_4, e114_5, e114_6, e114_7, e114_8, e114_11, e114_12, e114_15, e114_16, e114_19, e114_22, zpush, zopt_some, ↓reduceIte, List.getElem?_cons_succ, List.getElem?_cons_zero, beq_self_eq_true, true_and, and_true, Bool.true_and, Bool.and_true, Bool.false_and, Bool.and_false, nI_1, not_true_eq_false, not_false_eq_true, vp_narI, o0, ↓fd0, ↓fd1, ↓fd2, ↓fd3, ↓fd4, ↓fd5, ↓fd6, ↓fd7, ↓fd8, ↓fd9, ↓fd10, ↓fd11, ↓fd12, ↓fd13, ↓fd14, ↓fd15, ↓fd16, ↓fd17, ↓fd18, ↓fd19, ↓fd20]
    refine c_M_doDown V1.mm hg hv (V1.k 0 rfl) (fun h2 M2 V2 E2 => ?_)
    obtain ⟨o0, fd0, fd1, fd2, fd3, fd4, fd5, fd6, fd7, fd8, fd9, fd10, fd11, fd12, fd13, fd14, fd15, fd16, fd17, fd18, fd19, fd20, a0, a1, a2, a4, a5, a6, a7, a9, a10, a11, a14⟩ := V2.mm.q
    have W2 := (V1.mono (T' := [0, 1, 2, 3, 6, 7, 8, 9]) rfl).to V2 rfl
    simp only [e114_0, e114_1, e114_4, e114_5, e114_6, e114_7, e114_8, e114_11, e114_12, e114_15, e114_16, e114_19, e114_22, zpush, zopt_some, ↓reduceIte, List.getElem?_cons_succ, List.getElem?_cons_zero, beq_self_eq_true, true_and, and_true, Bool.true_and, Bool.and_true, Bool.false_and, Bool.and_false, nI_1, not_true_eq_false, not_false_eq_true, vp_narI, o0, ↓fd0, ↓fd1, ↓fd2, ↓fd3, ↓fd4, ↓fd5, ↓fd6, ↓fd7, ↓fd8, ↓fd9, ↓fd10, ↓fd11, ↓fd12, ↓fd13, ↓fd14, ↓fd15, ↓fd16, ↓fd17, ↓fd18, ↓fd19, ↓fd20]
    refine c_M_chg (a := M 0) V2.mm (hH.k (by rw [V2.k 2 rfl, V1.k 2 rfl]) (by rw [V2.k 3 rfl, V1.k 3 rfl])) (fun q hq => by rw [V2.k 1 rfl]; exact E1 q hq) (fun h3 M3 V3 H3 => ?_)
    simp only [e114_0, e114_1, e114_4, e114_5, e114_6, e114_7, e114_8, e114_11, e114_12, e114_15, e114_16, e114_19, e114_22, zpush, zopt_some, ↓reduceIte, List.getElem?_cons_succ, List.getElem?_cons_zero, beq_self_eq_true, true_and, and_true, Bool.true_and, Bool.and_true, Bool.false_and, Bool.and_false, nI_1, not_true_eq_false, not_false_eq_true, vp_narI, o0, ↓fd0, ↓fd1, ↓fd2, ↓fd3, ↓fd4, ↓fd5, ↓fd6, ↓fd7, ↓fd8, ↓fd9, ↓fd10, ↓fd11, ↓fd12, ↓fd13, ↓fd14, ↓fd15, ↓fd16, ↓fd17, ↓fd18, ↓fd19, ↓fd20]
    exact hQ h3 M3 (W2.to V3 rfl) ((V3.k 0 rfl).trans E2) H3
  rcases hv with hv | hv
  · subst hv
    simp only [e114_0, e114_1, e114_4, e114_5, e114_6, e114_7, e114_8, e114_11, e114_12, e114_15, e114_19, e114_22, zpush, zopt_some, ↓reduceIte, List.getElem?_cons_succ, List.getElem?_cons_zero, beq_self_eq_true, true_and, and_true, Bool.true_and, Bool.and_true, Bool.false_and, Bool.and_false, nI_1, not_true_eq_false, not_false_eq_true, vp_narI, o0, ↓fd0, ↓fd1, ↓fd2, ↓fd3, ↓fd4, ↓fd5, ↓fd6, ↓fd7, ↓fd8, ↓fd9, ↓fd10, ↓fd11, ↓fd12, ↓fd13, ↓fd14, ↓fd15, ↓fd16, ↓fd17, ↓fd18, ↓fd19, ↓fd20]
    exact key
  · subst hv
    simp only [e114_0, e114_1, e114_4, e114_5, e114_6, e114_7, e114_8, e114_11, e114_12, e114_15, e114_19, e114_22, zpush, zopt_some, ↓reduceIte, List.getElem?_cons_succ, List.getElem?_cons_zero, beq_self_eq_true, true_and, and_true, Bool.true_and, Bool.and_true, Bool.false_and, Bool.and_false, nI_1, not_true_eq_false, not_false_eq_true, vp_narI, o0, ↓fd0, ↓fd1, ↓fd2, ↓fd3, ↓fd4, ↓fd5, ↓fd6, ↓fd7, ↓fd8, ↓fd9, ↓fd10, ↓fd11, ↓fd12, ↓fd13, ↓fd14, ↓fd15, ↓fd16, ↓fd17, ↓fd18, ↓fd19, ↓fd20, (show ¬ (1 : Int32) = 0 by decide)]
    exact key
end ZC
end

