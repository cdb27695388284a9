/-! the law from its first instruction -/
section
set_option maxRecDepth 100000
def FH : List zC := dH 2 ++ moL 108
def M00 : Nat → Nat → Int32 := fun c => if c = 0 then upd (fun _ => 0) 0 2 else fun _ => 0
theorem sts_at (b : Nat) : ∀ n i, i < n → ∀ j, j < 9 → (sts b n)[9 * i + j]? = (stL (b + 9 * i))[j]?
  | 0, i, hi, _, _ => absurd hi (by omega)
  | n + 1, i, hi, j, hj => by
    show (sts b n ++ stL (b + 9 * n))[9 * i + j]? = _
    by_cases e : i = n
    · subst e
      exact ap_at (sts_len b i)
    · rw [List.getElem?_append_left (by rw [sts_len]; omega)]
      exact sts_at b n i (by omega) j hj
theorem zSt_new {h : List zC} {k : Nat} (e : ∀ j, j < 9 → h[k + j]? = (stL k)[j]?) : zSt h k (M00 0) := by
  have e0 := e 0 (by decide)
  rw [Nat.add_zero] at e0
  have g2 : gN (M00 0) 2 = 0 := rfl
  have g3 : gN (M00 0) 3 = 0 := rfl
  have g4 : gN (M00 0) 4 = 0 := rfl
  exact ⟨e0, ⟨_, e 1 (by decide), fun i hi => absurd hi (by omega)⟩, ⟨_, e 2 (by decide), fun i hi => absurd hi (by omega)⟩, ⟨_, e 3 (by decide), fun i hi => absurd hi (by omega)⟩, ⟨_, e 4 (by decide), fun i hi => absurd hi (by omega)⟩, ⟨_, e 5 (by decide), fun i hi => absurd hi (by omega)⟩, ⟨_, e 6 (by decide), fun i hi => absurd hi (by omega)⟩, ⟨_, e 7 (by decide), fun i hi => absurd hi (by omega)⟩, ⟨_, e 8 (by decide), fun i hi => absurd hi (by omega)⟩⟩
theorem zG_00 : zG (M00 0) := by
  have g2 : gN (M00 0) 2 = 0 := rfl
  have g3 : gN (M00 0) 3 = 0 := rfl
  refine ⟨⟨rfl, by decide, by decide⟩, ⟨rfl, by decide⟩, ⟨rfl, by decide⟩, ⟨rfl, by decide⟩, ⟨rfl, by decide⟩, fun i hi => absurd hi (by omega), fun i hi => absurd hi (by omega)⟩
theorem FH_st : ∀ j, j < 9 → FH[1 + j]? = (stL 1)[j]? := by
  intro j hj
  rcases (show j = 0 ∨ j = 1 ∨ j = 2 ∨ j = 3 ∨ j = 4 ∨ j = 5 ∨ j = 6 ∨ j = 7 ∨ j = 8 by omega) with rfl | rfl | rfl | rfl | rfl | rfl | rfl | rfl | rfl <;> rfl
theorem FH_eq : FH = [zob 5 [.ref 1, .ref 10, .ref 75, .ref 76, .ref 77, .ref 80, .ref 82, .ref 86]] ++ (stL 1 ++ ([zob 0 [.ref 11, .int 0, .int 0], zrr 7 (rfS 12 7)] ++ (sts 12 7 ++ ([zrr 2 (rfS 90 2), zar .boolean 2 (fun _ => 0)] ++ (swL 77 ++ (pdL 80 ++ (lyL 82 ++ (lyL 86 ++ (sts 90 2 ++ moL 108))))))))) := by
  unfold FH dH hiL
  simp only [List.append_assoc, List.cons_append, List.nil_append]
theorem FH_hi {i : Nat} (hi : i < 7) : ∀ j, j < 9 → FH[12 + 9 * i + j]? = (stL (12 + 9 * i))[j]? := by
  intro j hj
  have e : FH = ([zob 5 [.ref 1, .ref 10, .ref 75, .ref 76, .ref 77, .ref 80, .ref 82, .ref 86]] ++ (stL 1 ++ [zob 0 [.ref 11, .int 0, .int 0], zrr 7 (rfS 12 7)])) ++ (sts 12 7 ++ ([zrr 2 (rfS 90 2), zar .boolean 2 (fun _ => 0)] ++ (swL 77 ++ (pdL 80 ++ (lyL 82 ++ (lyL 86 ++ (sts 90 2 ++ moL 108))))))) := by
    rw [FH_eq]; simp only [List.append_assoc]
  rw [e, Nat.add_assoc]
  refine (ap_at (k := 12) (i := 9 * i + j) rfl).trans ?_
  rw [List.getElem?_append_left (by rw [sts_len]; omega)]
  exact sts_at 12 7 i hi j hj
theorem FH_sl {i : Nat} (hi : i < 2) : ∀ j, j < 9 → FH[90 + 9 * i + j]? = (stL (90 + 9 * i))[j]? := by
  intro j hj
  have e : FH = ([zob 5 [.ref 1, .ref 10, .ref 75, .ref 76, .ref 77, .ref 80, .ref 82, .ref 86]] ++ (stL 1 ++ ([zob 0 [.ref 11, .int 0, .int 0], zrr 7 (rfS 12 7)] ++ (sts 12 7 ++ ([zrr 2 (rfS 90 2), zar .boolean 2 (fun _ => 0)] ++ (swL 77 ++ (pdL 80 ++ (lyL 82 ++ lyL 86)))))))) ++ (sts 90 2 ++ moL 108) := by
    rw [FH_eq]; simp only [List.append_assoc]
  rw [e, Nat.add_assoc]
  refine (ap_at (k := 90) (i := 9 * i + j) rfl).trans ?_
  rw [List.getElem?_append_left (by rw [sts_len]; omega)]
  exact sts_at 90 2 i hi j hj
theorem rfS_7 : rfS 12 7 = fun i => if i < 7 then some (12 + 9 * i) else none := by
  funext i
  simp only [rfS, va_up]
  by_cases h : i < 7
  · rw [if_pos h]
    rcases (show i = 0 ∨ i = 1 ∨ i = 2 ∨ i = 3 ∨ i = 4 ∨ i = 5 ∨ i = 6 by omega) with rfl | rfl | rfl | rfl | rfl | rfl | rfl <;> rfl
  · rw [if_neg h, if_neg (by omega), if_neg (by omega), if_neg (by omega), if_neg (by omega), if_neg (by omega), if_neg (by omega), if_neg (by omega)]
theorem rfS_2 : rfS 90 2 = fun i => if i < 2 then some (90 + 9 * i) else none := by
  funext i
  simp only [rfS, va_up]
  by_cases h : i < 2
  · rw [if_pos h]
    rcases (show i = 0 ∨ i = 1 by omega) with rfl | rfl <;> rfl
  · rw [if_neg h, if_neg (by omega), if_neg (by omega)]
theorem zMM_FH : zMM FH M00 := ⟨rfl, rfl, rfl, rfl, rfl, rfl, rfl, rfl, rfl, rfl, rfl, rfl⟩
theorem zCl_FH : zCl FH (M00 0) 0 (fun _ _ => 0) (fun _ => 0) (fun _ _ => 0) 0 (M00 14) := by
  have g3 : gN (M00 0) 3 = 0 := rfl
  refine ⟨⟨82, 86, ⟨Or.inl ⟨rfl, rfl⟩, rfl, zSt_new FH_st, ⟨fun _ => 0, fun _ => 0, ⟨rfl, rfl, rfl⟩, ?_⟩, ⟨_, _, _, _, rfl, rfl, rfl, rfl⟩, ⟨_, _, _, _, rfl, rfl, rfl, rfl⟩⟩, ⟨fun _ => 0, fun _ => 0, fun _ => 0, 0, ⟨rfl, rfl, rfl, rfl⟩, ?_⟩⟩, ⟨0, ⟨rfl, ?_, by decide, by decide, fun i hi => (zSt_new (FH_hi hi)).ty⟩, fun j hj => absurd hj (by omega)⟩, ⟨?_, rfl, fun i hi => ⟨(zSt_new (FH_sl hi)).ty, Or.inl rfl, fun e => absurd (show (0 : Int32) = 1 from e) (by decide)⟩⟩, ⟨⟨0, 32, 0, 0, rfl⟩, rfl, by decide, fun i hi => absurd hi (by omega)⟩⟩
  · intro q hq seed w hs h1 h16 e
    exfalso
    exact nI_ne0 (n := seed * 17 + w) (by omega) (by omega) e.symm
  · rw [g3]
    exact ⟨fun k hk => absurd hk (by omega), fun k _ _ => rfl, fun s _ => rfl, rfl⟩
  · rw [← rfS_7]; rfl
  · rw [← rfS_2]; rfl
theorem zJ_FH : zJ FH := ⟨M00, 0, fun _ _ => 0, fun _ => 0, fun _ _ => 0, 0, zMM_FH, zG_00, zCl_FH, ⟨rfl, by decide, fun j hj => absurd hj (by omega)⟩, fun i hi => ⟨rfl, Or.inl rfl, fun e => absurd (show (0 : Int32) = 1 from e) (by decide)⟩, rfl⟩
theorem FH_len : FH.length = 120 := by
  unfold FH
  rw [List.length_append, dH_len]
  rfl
theorem c_boot {w : Nat × (Nat → Int32)} {Q : Option Value → zX → Prop} : Ev 151 0 [zS, zU, zU, zU] [] ([], (0, w)) Q = Ev 151 18 [zS, .ref 0, .ref 108, .int (nI 0)] [] (FH, (11326, w)) Q := by
  rw [e151_0]
  dsimp only
  rw [e151_3, e151_4]
  have z0 : zisO ([] ++ [zob 5 [.null, .null, .null, .null, .null, .null, .null, .null]]) (List.length ([] : List zC)) 5 = true := rfl
  rw [z0]
  have cD := fun (Q : Option Value → zX → Prop) => c_D_init (z := (0 + 8, w)) (Q := Q)
  simp only [true_and, List.nil_append, List.length_nil, cD, zpush]
  rw [e151_7, e151_8]
  dsimp only
  rw [e151_11, e151_12, c_M_init]
  simp only [zisO_last, true_and, zpush]
  rw [e151_15, e151_16, e151_17, dH_len]
  rfl
theorem c_run {L : Nat} {xs : Nat → Int32} (hL : L < 2 ^ 31) : Ev 151 0 [zS, zU, zU, zU] [] ([], (0, (L, xs))) (fun r X' => r = some (.int 1) ∧ X'.1.length ≤ 600000 ∧ X'.2.1 ≤ 7302250) := by
  rw [c_boot]
  refine l_law (z := (11326, (L, xs))) (len := 120) hL (fun h' hl => ⟨rfl, ?_, ?_⟩) (L + 1) 0 FH (Nat.zero_le _) (by show L < 0 + 3 * (L + 1); omega) FH_len zJ_FH
  · show h'.length ≤ 600000
    omega
  · show 11326 ≤ 7302250
    decide
end
