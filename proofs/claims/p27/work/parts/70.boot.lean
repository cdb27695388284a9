/-! the law from its first instruction -/
section
set_option maxRecDepth 100000
def FH : List zC := dH 2
def R0 : Nat → Int32 := upd (fun _ => 0) 0 2
theorem sts_at (b : Nat) : ∀ n i, i < n → ∀ j, j < 9 → (sts b n)[9 * i + j]? = (stL (b + 9 * i))[j]?
  | 0, i, hi, _, _ => absurd hi (by omega)
  | n + 1, i, hi, j, hj => by
    show (sts b n ++ stL (b + 9 * n))[9 * i + j]? = _
    by_cases e : i = n
    · subst e
      exact ap_at (sts_len b i)
    · rw [List.getElem?_append_left (by rw [sts_len]; omega)]
      exact sts_at b n i (by omega) j hj
theorem zSt_new {h : List zC} {k : Nat} (e : ∀ j, j < 9 → h[k + j]? = (stL k)[j]?) : zSt h k R0 := by
  have e0 := e 0 (by decide)
  rw [Nat.add_zero] at e0
  have g2 : gN R0 2 = 0 := rfl
  have g3 : gN R0 3 = 0 := rfl
  have g4 : gN R0 4 = 0 := rfl
  exact ⟨e0, ⟨_, e 1 (by decide), fun i hi => absurd hi (by omega)⟩, ⟨_, e 2 (by decide), fun i hi => absurd hi (by omega)⟩, ⟨_, e 3 (by decide), fun i hi => absurd hi (by omega)⟩, ⟨_, e 4 (by decide), fun i hi => absurd hi (by omega)⟩, ⟨_, e 5 (by decide), fun i hi => absurd hi (by omega)⟩, ⟨_, e 6 (by decide), fun i hi => absurd hi (by omega)⟩, ⟨_, e 7 (by decide), fun i hi => absurd hi (by omega)⟩, ⟨_, e 8 (by decide), fun i hi => absurd hi (by omega)⟩⟩
theorem zG_00 : zG R0 := by
  have g2 : gN R0 2 = 0 := rfl
  have g3 : gN R0 3 = 0 := rfl
  refine ⟨⟨rfl, by decide, by decide⟩, ⟨rfl, by decide⟩, ⟨rfl, by decide⟩, ⟨rfl, by decide⟩, ⟨rfl, by decide⟩, fun i hi => absurd hi (by omega), fun i hi => absurd hi (by omega)⟩
theorem FH_st : ∀ j, j < 9 → FH[1 + j]? = (stL 1)[j]? := by
  intro j hj
  rcases (show j = 0 ∨ j = 1 ∨ j = 2 ∨ j = 3 ∨ j = 4 ∨ j = 5 ∨ j = 6 ∨ j = 7 ∨ j = 8 by omega) with rfl | rfl | rfl | rfl | rfl | rfl | rfl | rfl | rfl <;> rfl
theorem FH_eq : FH = [zob 5 [.ref 1, .ref 10, .ref 75, .ref 76, .ref 77, .ref 80, .ref 82, .ref 86]] ++ (stL 1 ++ ([zob 0 [.ref 11, .int 0, .int 0], zrr 7 (rfS 12 7)] ++ (sts 12 7 ++ ([zrr 2 (rfS 90 2), zar .boolean 2 (fun _ => 0)] ++ (swL 77 ++ (pdL 80 ++ (lyL 82 ++ (lyL 86 ++ sts 90 2)))))))) := by
  unfold FH dH hiL
  simp only [List.append_assoc, List.cons_append, List.nil_append]
theorem FH_hi {i : Nat} (hi : i < 7) : ∀ j, j < 9 → FH[12 + 9 * i + j]? = (stL (12 + 9 * i))[j]? := by
  intro j hj
  have e : FH = ([zob 5 [.ref 1, .ref 10, .ref 75, .ref 76, .ref 77, .ref 80, .ref 82, .ref 86]] ++ (stL 1 ++ [zob 0 [.ref 11, .int 0, .int 0], zrr 7 (rfS 12 7)])) ++ (sts 12 7 ++ ([zrr 2 (rfS 90 2), zar .boolean 2 (fun _ => 0)] ++ (swL 77 ++ (pdL 80 ++ (lyL 82 ++ (lyL 86 ++ sts 90 2)))))) := by
    rw [FH_eq]; simp only [List.append_assoc]
  rw [e, Nat.add_assoc]
  refine (ap_at (k := 12) (i := 9 * i + j) rfl).trans ?_
  rw [List.getElem?_append_left (by rw [sts_len]; omega)]
  exact sts_at 12 7 i hi j hj
theorem FH_sl {i : Nat} (hi : i < 2) : ∀ j, j < 9 → FH[90 + 9 * i + j]? = (stL (90 + 9 * i))[j]? := by
  intro j hj
  have e : FH = ([zob 5 [.ref 1, .ref 10, .ref 75, .ref 76, .ref 77, .ref 80, .ref 82, .ref 86]] ++ (stL 1 ++ ([zob 0 [.ref 11, .int 0, .int 0], zrr 7 (rfS 12 7)] ++ (sts 12 7 ++ ([zrr 2 (rfS 90 2), zar .boolean 2 (fun _ => 0)] ++ (swL 77 ++ (pdL 80 ++ (lyL 82 ++ lyL 86)))))))) ++ sts 90 2 := by
    rw [FH_eq]; simp only [List.append_assoc]
  rw [e, Nat.add_assoc]
  refine (ap_at (k := 90) (i := 9 * i + j) rfl).trans ?_
  exact sts_at 90 2 i hi j hj
theorem rfS_7 : rfS 12 7 = fun i => if i < 7 then some (12 + 9 * i) else none := by
  funext i
  simp only [rfS, va_up]
  by_cases h : i < 7
  · rw [if_pos h]
    rcases (show i = 0 ∨ i = 1 ∨ i = 2 ∨ i = 3 ∨ i = 4 ∨ i = 5 ∨ i = 6 by omega) with rfl | rfl | rfl | rfl | rfl | rfl | rfl <;> rfl
  · rw [if_neg h, if_neg (by omega), if_neg (by omega), if_neg (by omega), if_neg (by omega), if_neg (by omega), if_neg (by omega), if_neg (by omega)]
theorem rfS_2 : rfS 90 2 = fun i => if i < 2 then some (90 + 9 * i) else none := by
  funext i
  simp only [rfS, va_up]
  by_cases h : i < 2
  · rw [if_pos h]
    rcases (show i = 0 ∨ i = 1 by omega) with rfl | rfl <;> rfl
  · rw [if_neg h, if_neg (by omega), if_neg (by omega)]
theorem zCl_FH : zCl FH R0 0 (fun _ _ => 0) (fun _ => 0) (fun _ _ => 0) 0 (fun _ => 0) := by
  have g3 : gN R0 3 = 0 := rfl
  refine ⟨⟨82, 86, ⟨Or.inl ⟨rfl, rfl⟩, rfl, zSt_new FH_st, ⟨fun _ => 0, fun _ => 0, ⟨rfl, rfl, rfl⟩, ?_⟩, ⟨_, _, _, _, rfl, rfl, rfl, rfl⟩, ⟨_, _, _, _, rfl, rfl, rfl, rfl⟩⟩, ⟨fun _ => 0, fun _ => 0, fun _ => 0, 0, ⟨rfl, rfl, rfl, rfl⟩, ?_⟩⟩, ⟨0, ⟨rfl, ?_, by decide, by decide, fun i hi => (zSt_new (FH_hi hi)).ty⟩, fun j hj => absurd hj (by omega)⟩, ⟨?_, rfl, fun i hi => ⟨(zSt_new (FH_sl hi)).ty, Or.inl rfl, fun e => absurd (show (0 : Int32) = 1 from e) (by decide)⟩⟩, ⟨⟨0, 32, 0, 0, rfl⟩, rfl, by decide, fun i hi => absurd hi (by omega)⟩⟩
  · intro q hq seed w hs h1 h16 e
    exfalso
    exact nI_ne0 (n := seed * 17 + w) (by omega) (by omega) e.symm
  · rw [g3]
    exact ⟨fun k hk => absurd hk (by omega), fun k _ _ => rfl, fun s _ => rfl, rfl⟩
  · rw [← rfS_7]; rfl
  · rw [← rfS_2]; rfl
theorem asc_0 : asc R0 := fun p q _ hq => absurd hq (by have : gN R0 3 = 0 := rfl; omega)
theorem FH_len : FH.length = 108 := dH_len 2
theorem c_boot {w : Nat × (Nat → Int32)} {Q : Option Value → zX → Prop} : Ev 70 0 [zS, zU, zU, zU] [] ([], (0, w)) Q = Ev 70 12 [zS, .ref 0, .int 1, .int (nI 0)] [] (FH, (6324, w)) Q := by
  rw [e70_0]
  dsimp only
  rw [e70_3, e70_4]
  have z0 : zisO ([] ++ [zob 5 [.null, .null, .null, .null, .null, .null, .null, .null]]) (List.length ([] : List zC)) 5 = true := rfl
  rw [z0]
  have cD := fun (Q : Option Value → zX → Prop) => c_D_init (z := (0 + 8, w)) (Q := Q)
  simp only [true_and, List.nil_append, List.length_nil, cD, zpush]
  simp only [e70_7, e70_8, e70_9, e70_10, e70_11]
  rfl
theorem l_law {z : Nat × (Nat × (Nat → Int32))} {Q : Option Value → zX → Prop} {len l : Nat} {S : Nat → Nat → Int32} {sv f : Nat → Int32} (hz : z.2.1 < 2 ^ 31) (hQ : ∀ h' : List zC, h'.length = len → Q (some (.int 1)) (h', z)) :
    ∀ (j i : Nat) (h : List zC) (a : Nat → Int32) (n : Nat) (H : Nat → Nat → Int32), i + j = 46 → h.length = len → zG a → asc a → zCl h a n H sv S l f → Ev 70 12 [zS, .ref 0, .int 1, .int (nI i)] [] (h, z) Q := by
  have x1 : ¬ (1 : Int32) = 0 := by decide
  intro j
  induction j with
  | zero =>
    intro i h a n H hi hl hg ha hK
    have hi : i = 46 := by omega
    subst hi
    have e1 : (46 : Int32) ≤ nI 46 := Int32.le_refl _
    rw [e70_12]
    simp only [e70_13, e70_15, e70_18, e70_19, e70_22, e70_23, e70_24, e70_25, e70_28, e70_31, e70_34, e70_35, e70_38, e70_41, e70_42, e70_45, e70_46, e70_47, e70_50, e70_53, e70_54, zpush, zopt_some, ↓reduceIte, List.getElem?_cons_succ, List.getElem?_cons_zero, beq_self_eq_true, true_and, and_true, Bool.true_and, Bool.and_true, Bool.false_and, Bool.and_false, nI_1, not_true_eq_false, not_false_eq_true, vp_narI, e1, z1_and]
    exact hQ h hl
  | succ j ih =>
    intro i h a n H hi hl hg ha hK
    have e1 : ¬ (46 : Int32) ≤ nI i := nI_ge (b := 46) (by omega) (by decide)
    obtain ⟨x, cx⟩ := c_cell (z := z) (k := i) hz (by omega)
    rw [e70_12]
    simp only [e70_13, e70_15, e70_18, e70_19, e70_22, e70_23, e70_24, e70_25, e70_28, zpush, zopt_some, ↓reduceIte, List.getElem?_cons_succ, List.getElem?_cons_zero, beq_self_eq_true, true_and, and_true, Bool.true_and, Bool.and_true, Bool.false_and, Bool.and_false, nI_1, not_true_eq_false, not_false_eq_true, vp_narI, e1, x1, cx]
    refine c_isStep hg ha hK (fun h1 a1 n1 H1 hl1 g1 g2 g3 C1 => ?_)
    simp only [e70_31, e70_34, e70_35, zpush, zopt_some, ↓reduceIte, List.getElem?_cons_succ, List.getElem?_cons_zero, beq_self_eq_true, true_and, and_true, Bool.true_and, Bool.and_true, Bool.false_and, Bool.and_false, nI_1, not_true_eq_false, not_false_eq_true, vp_narI, x1]
    refine c_areKept g1 g2 g3 C1 (fun h2 hl2 C2 => ?_)
    simp only [e70_38, e70_41, e70_42, e70_45, e70_46, e70_47, e70_50, zpush, zopt_some, ↓reduceIte, List.getElem?_cons_succ, List.getElem?_cons_zero, beq_self_eq_true, true_and, and_true, Bool.true_and, Bool.and_true, Bool.false_and, Bool.and_false, nI_1, not_true_eq_false, not_false_eq_true, vp_narI, x1]
    exact ih (i + 1) h2 a1 n1 H1 (by omega) (hl2.trans (hl1.trans hl)) g1 g2 C2
theorem c_run {L : Nat} {xs : Nat → Int32} (hL : L < 2 ^ 31) : Ev 70 0 [zS, zU, zU, zU] [] ([], (0, (L, xs))) (fun r X' => r = some (.int 1) ∧ X'.1.length ≤ 600000 ∧ X'.2.1 ≤ 7302250) := by
  rw [c_boot]
  refine l_law (z := (6324, (L, xs))) (len := 108) hL (fun h' hl => ⟨rfl, ?_, ?_⟩) 46 0 FH R0 0 (fun _ _ => 0) (by omega) FH_len zG_00 asc_0 zCl_FH
  · show h'.length ≤ 600000
    omega
  · show 6324 ≤ 7302250
    decide
end
