/-! what places depend on; the moves of a change -/
section
set_option maxRecDepth 100000
def zEqP (a b : Nat → Int32) : Prop := b 0 = a 0 ∧ b 1 = a 1 ∧ b 2 = a 2 ∧ ∀ s, s < gN a 2 → b (5 + s) = a (5 + s) ∧ b (17 + s) = a (17 + s) ∧ b (29 + s) = a (29 + s)
section CO
variable {a b : Nat → Int32}
theorem zEqP.c_tp (h : zEqP a b) {s : Nat} (hs : s < gN a 2) : tp b s = tp a s := by unfold tp; rw [(h.2.2.2 s hs).2.1, (h.2.2.2 s hs).2.2]
theorem zEqP.c_len (h : zEqP a b) {s : Nat} (hs : s < gN a 2) (o : Nat) : lenS b s o = lenS a s o := by unfold lenS gN; rw [h.2.1, (h.2.2.2 s hs).2.1]
theorem zEqP.c_tkn (h : zEqP a b) {s : Nat} (hs : s < gN a 2) {l : List Nat} (hl : ∀ p ∈ l, p < gN a 2) : tkn b l s = tkn a l s := by
  unfold tkn
  induction l with
  | nil => rfl
  | cons p l ih =>
    rw [List.any_cons, List.any_cons, ih (fun q hq => hl q (List.mem_cons_of_mem _ hq)), (h.2.2.2 s hs).1, (h.2.2.2 p (hl p (List.mem_cons_self ..))).1]
theorem zEqP.c_cnd (h : zEqP a b) {s : Nat} (hs : s < gN a 2) {l : List Nat} (hl : ∀ p ∈ l, p < gN a 2) : cnd b l s = cnd a l s := by
  unfold cnd; rw [h.c_tp hs, h.c_tkn hs hl]
theorem zEqP.c_bst (h : zEqP a b) {l : List Nat} (hl : ∀ p ∈ l, p < gN a 2) (o : Nat) : ∀ i, i ≤ gN a 2 → bst b o l i = bst a o l i
  | 0, _ => rfl
  | i + 1, hi => by
    have ih := zEqP.c_bst h hl o i (by omega)
    unfold bst
    rw [ih, h.c_cnd (by omega) hl]
    cases hb : bst a o l i with
    | none => rfl
    | some c =>
      have hc := (bst_lt a o l i c hb).1
      simp only [h.c_len (show c < gN a 2 by omega), h.c_len (show i < gN a 2 by omega)]
theorem zEqP.c_grow (h : zEqP a b) (o : Nat) : ∀ (c : Nat) (l : List Nat), (∀ p ∈ l, p < gN a 2) → grow b o c l = grow a o c l
  | 0, _, _ => rfl
  | c + 1, l, hl => by
    have e2 : gN b 2 = gN a 2 := by unfold gN; rw [h.2.2.1]
    unfold grow
    rw [e2, h.c_bst hl o _ (Nat.le_refl _)]
    cases hb : bst a o l (gN a 2) with
    | none => rfl
    | some d =>
      have hd := (bst_lt a o l _ d hb).1
      exact zEqP.c_grow h o c (l ++ [d]) (fun p hp => by
        rcases List.mem_append.mp hp with hp | hp
        · exact hl p hp
        · rw [List.mem_singleton.mp hp]; exact hd)
theorem zEqP.c_plc (h : zEqP a b) (hg : zG a) (o : Nat) (pin : Int32) : plc b o pin = plc a o pin := by
  have e2 : gN b 2 = gN a 2 := by unfold gN; rw [h.2.2.1]
  have e0 : gN b 0 = gN a 0 := by unfold gN; rw [h.1]
  unfold plc
  have hp : pnd b pin = pnd a pin := by
    unfold pnd
    rw [e2]
    by_cases hz : zinb pin (gN a 2) = true
    · obtain ⟨j, hj, rfl⟩ := zinb_ex hz (by have := hg.2.2.1.2; omega)
      rw [h.c_tp (by rw [nI_clamp (by have := hg.2.2.1.2; omega)]; exact hj)]
    · rw [Bool.not_eq_true] at hz
      rw [hz, Bool.false_and, Bool.false_and]
  rw [hp, e0]
  split
  next hq =>
    obtain ⟨j, hj, -, e, ht⟩ := pnd_ex hg hq
    exact h.c_grow o _ _ (fun p hp => by rw [List.mem_singleton.mp hp, e]; exact hj)
  next => exact h.c_grow o _ _ (fun p hp => by cases hp)
theorem zEqM.p (h : zEqM a b) (hg : zG a) : zEqP a b := by
  have b2 := hg.2.2.1.2
  exact ⟨h 0 (by decide) (by decide), h 1 (by decide) (by decide), h 2 (by decide) (by decide), fun s hs => ⟨h _ (by omega) (by omega), h _ (by omega) (by omega), h _ (by omega) (by omega)⟩⟩
theorem zEqM.c_plK (h : zEqM a b) (hg : zG a) {k : Nat} (hk : k < 40) : plK b k = plK a k := by
  unfold plK
  rw [(h.p hg).c_plc hg]
  unfold gN
  rw [h (41 + k) (by omega) (by omega), h (81 + k) (by omega) (by omega)]
theorem zEqM.g (h : zEqM a b) {i : Nat} (hi : i < 121) (h4 : i ≠ 4) : gN b i = gN a i := by unfold gN; rw [h i hi h4]
theorem amv_ok {o lost got : Int32} : ∀ (j i : Nat) (r : Nat → Int32), zG r → zG (amv o lost got j i r) ∧ zEqM r (amv o lost got j i r)
  | 0, i, r, hg => ⟨hg, zEqM.rf⟩
  | j + 1, i, r, hg => by
    unfold amv
    split
    next => exact ⟨hg, zEqM.rf⟩
    next h =>
      have hlt : gN r 4 < 120 := by
        rcases Nat.lt_or_ge (gN r 4) 120 with h' | h'
        · exact h'
        · exact absurd (Or.inr h') h
      have := amv_ok (o := o) (lost := lost) (got := got) j (i + 1) (addM r o (nthS lost i) (nthS got i)) (zG_addM hg hlt)
      exact ⟨this.1, zEqM.tr (fun q h1 h2 => addM_lo h2 h1) this.2⟩
def lostI (a0 a1 : Nat → Int32) (k : Nat) : Int32 := setI (plK a0 k) &&& (setI (plK a1 k) ^^^ (-1))
def gotI (a0 a1 : Nat → Int32) (k : Nat) : Int32 := setI (plK a1 k) &&& (setI (plK a0 k) ^^^ (-1))
def mvs (a0 a1 : Nat → Int32) : Nat → Nat → Int32
  | 0 => upd a1 4 0
  | k + 1 => amv (a1 (41 + k)) (lostI a0 a1 k) (gotI a0 a1 k) 3 0 (mvs a0 a1 k)
def fmA (a0 a1 : Nat → Int32) : Nat → Int32 := mvs a0 a1 (gN a1 3)
theorem mvs_ok {a0 : Nat → Int32} (hg : zG a) : ∀ k, zG (mvs a0 a k) ∧ zEqM a (mvs a0 a k)
  | 0 => by
    refine ⟨zG_eq (b := upd a 4 0) hg ⟨?_, ?_⟩ (fun i h1 h2 => upd_n h2), fun i h1 h2 => upd_n h2⟩
    · unfold gN; rw [upd_s]; rfl
    · unfold gN; rw [upd_s]; decide
  | k + 1 => by
    have h1 := mvs_ok (a0 := a0) hg k
    have h2 := amv_ok (o := a (41 + k)) (lost := lostI a0 a k) (got := gotI a0 a k) 3 0 _ h1.1
    exact ⟨h2.1, h1.2.tr h2.2⟩
theorem fmA_ok {a0 : Nat → Int32} (hg : zG a) : zG (fmA a0 a) ∧ zEqM a (fmA a0 a) := mvs_ok hg _
theorem zEqM.c_tot (h : zEqM a b) (hg : zG a) : ∀ n, n ≤ 40 → tot b n = tot a n
  | 0, _ => rfl
  | n + 1, hn => by show tot b n + _ = tot a n + _; rw [zEqM.c_tot h hg n (by omega), h.c_plK hg (by omega)]
theorem zEqM.c_ldF (h : zEqM a b) (hg : zG a) : ∀ n, n ≤ 40 → ldF b n = ldF a n
  | 0, _ => rfl
  | n + 1, hn => by show incs (ldF b n) _ = incs (ldF a n) _; rw [zEqM.c_ldF h hg n (by omega), h.c_plK hg (by omega)]
theorem zEqM.ly {h : List zC} {y : Nat} (e : zEqM a b) (hg : zG a) (hL : zLy h y a) : zLy h y b := by
  obtain ⟨cf, sf, lf, t, h1, h2, h3, h4, h5⟩ := hL
  have b3 := hg.2.2.2.1.2
  refine ⟨cf, sf, lf, t, h1, ?_⟩
  rw [e.g (by decide) (by decide)]
  exact ⟨fun k hk => by rw [e.c_plK hg (by omega)]; exact h2 k hk, h3, fun s hs => by rw [e.c_ldF hg _ b3]; exact h4 s hs, by rw [e.c_tot hg _ b3]; exact h5⟩
end CO
/-- a layout of a row's places for its first n objects -/
def zRw (h : List zC) (y : Nat) (a : Nat → Int32) (n : Nat) : Prop := ∃ cf sf lf t, zLo h y cf sf lf t ∧ ∀ k, k < n → zHas cf sf k (plK a k)
theorem zRw.fr {h h' : List zC} {y n : Nat} {a : Nat → Int32} (hL : zRw h y a n) (hf : ∀ j, y ≤ j → j ≤ y + 3 → h'[j]? = h[j]?) : zRw h' y a n := by
  obtain ⟨cf, sf, lf, t, h1, h2⟩ := hL
  exact ⟨cf, sf, lf, t, h1.fr hf, h2⟩
theorem zLy.fr {h h' : List zC} {y : Nat} {a : Nat → Int32} (hL : zLy h y a) (hf : ∀ j, y ≤ j → j ≤ y + 3 → h'[j]? = h[j]?) : zLy h' y a := by
  obtain ⟨cf, sf, lf, t, h1, h2⟩ := hL
  exact ⟨cf, sf, lf, t, h1.fr hf, h2⟩
theorem zLy.rw {h : List zC} {y : Nat} {a : Nat → Int32} (hL : zLy h y a) : zRw h y a (gN a 3) := by
  obtain ⟨cf, sf, lf, t, h1, h2⟩ := hL
  exact ⟨cf, sf, lf, t, h1, fun k hk => h2.1 k hk⟩
def zPT (P T : Nat) : Prop := (P = 82 ∧ T = 86) ∨ (P = 86 ∧ T = 82)
theorem zPT.sw {P T : Nat} (h : zPT P T) : zPT T P := by unfold zPT at *; omega
/-- the object's own parts: its state is at row a, its layout at y has row a0's places of n objects -/
def zKp (h : List zC) (P T : Nat) (a : Nat → Int32) : Prop := zPT P T ∧ zDo h P T ∧ zSt h 1 a ∧ (∃ ln dr, zSw h ln dr ∧ zCa ln dr) ∧ (∃ cf sf lf t, zLo h P cf sf lf t) ∧ (∃ cf sf lf t, zLo h T cf sf lf t)
def zKo (h : List zC) (P T : Nat) (a : Nat → Int32) : Prop := zKp h P T a ∧ zLy h P a
def zWr (j : Nat) : Prop := j ≤ 9 ∨ (78 ≤ j ∧ j ≤ 79) ∨ (82 ≤ j ∧ j ≤ 89)
section ZC
variable {h : List zC} {z : Nat × (Nat × (Nat → Int32))} {k : Nat} {a a0 : Nat → Int32} {Q : Option Value → zX → Prop}
theorem zSt.mv0 (hS : zSt h 1 a) (hg : zG a) : zSt (h.set 1 (zob 3 [.int (a 0), .int (a 1), .int (a 2), .ref (1 + 1), .ref (1 + 2), .ref (1 + 3), .int (a 3), .ref (1 + 4), .ref (1 + 5), .int 0, .ref (1 + 6), .ref (1 + 7), .ref (1 + 8)])) 1 (upd a 4 0) := by
  obtain ⟨f1, f2, f3, f4, f5, f6, f7, f8, hX, q1, q2, q3, q4, q5, q6, q7, q8⟩ := hS.x
  have b2 := hg.2.2.1.2
  have b3 := hg.2.2.2.1.2
  have e4 : gN (upd a 4 0) 4 = 0 := by unfold gN; rw [upd_s]; rfl
  have X1 := hX.obj (a 0) (a 1) (a 2) (a 3) 0
  refine zSx.st (f1 := f1) (f2 := f2) (f3 := f3) (f4 := f4) (f5 := f5) (f6 := f6) (f7 := f7) (f8 := f8) ?_ ⟨?_, ?_, ?_, ?_, ?_, ?_, ?_, ?_⟩
  · rw [upd_n (show 0 ≠ 4 by decide), upd_n (show 1 ≠ 4 by decide), upd_n (show 2 ≠ 4 by decide), upd_n (show 3 ≠ 4 by decide), upd_s]; exact X1
  · intro i hi; rw [gN_u (by decide)] at hi; rw [upd_n (by omega)]; exact q1 i hi
  · intro i hi; rw [gN_u (by decide)] at hi; rw [upd_n (by omega)]; exact q2 i hi
  · intro i hi; rw [gN_u (by decide)] at hi; rw [upd_n (by omega)]; exact q3 i hi
  · intro i hi; rw [gN_u (by decide)] at hi; rw [upd_n (by omega)]; exact q4 i hi
  · intro i hi; rw [gN_u (by decide)] at hi; rw [upd_n (by omega)]; exact q5 i hi
  · intro i hi; rw [e4] at hi; omega
  · intro i hi; rw [e4] at hi; omega
  · intro i hi; rw [e4] at hi; omega
theorem l_D_findMoves {P T : Nat} (hg : zG a) (h0 : zG a0) (hPT : zPT P T)
    (hQ : ∀ (h' : List zC) (v2 v3 : Value) (n : Nat), zFr (fun j => 1 ≤ j ∧ j ≤ 9) h h' → zSt h' 1 (fmA a0 a) → n = gN a 3 → Ev 58 79 [.ref 0, .int (nI n), v2, v3] [] (h', z) Q) :
    ∀ (j i : Nat) (h' : List zC) (v2 v3 : Value), i + j = gN a 3 → zFr (fun j => 1 ≤ j ∧ j ≤ 9) h h' → zDo h' P T → zSt h' 1 (mvs a0 a i) → zRw h' P a0 (gN a 3) → zRw h' T a (gN a 3) →
    Ev 58 18 [.ref 0, .int (nI i), v2, v3] [] (h', z) Q := by
  obtain ⟨g3, b3⟩ := hg.2.2.2.1
  intro j
  induction j with
  | zero =>
    intro i h' v2 v3 hi hF hD hS hP hT
    have hi : i = gN a 3 := by omega
    subst hi
    have em := (mvs_ok (a0 := a0) hg (gN a 3)).2
    have e1 : mvs a0 a (gN a 3) 3 ≤ nI (gN a 3) := by rw [em 3 (by decide) (by decide), ← g3]; exact Int32.le_refl _
    have hD' : h'[0]? = some (zob 5 [.ref 1, .ref 10, .ref 75, .ref 76, .ref 77, .ref 80, .ref P, .ref T]) := hD
    have S0 := hS.1
    rw [e58_18]
    simp only [e58_0, e58_1, e58_2, e58_5, e58_8, e58_9, e58_12, e58_13, e58_16, e58_17, e58_19, e58_20, e58_23, e58_26, e58_29, e58_30, e58_33, e58_34, e58_37, e58_38, e58_39, e58_42, e58_43, e58_46, e58_47, e58_48, e58_51, e58_52, e58_55, e58_58, e58_59, e58_60, e58_61, e58_62, e58_63, e58_64, e58_65, e58_66, e58_67, e58_68, e58_69, e58_70, e58_73, e58_76, e58_80, e58_83, e58_84, e58_85, e58_86, e58_89, e58_92, e58_93, e58_94, e58_97, e58_98, e58_101, e58_104, zgF, zgA, zgR, zisO, zpush, zopt_some, ↓reduceIte, List.getElem?_cons_succ, List.getElem?_cons_zero, beq_self_eq_true, true_and, and_true, Bool.true_and, Bool.and_true, Bool.false_and, Bool.and_false, nI_1, not_true_eq_false, not_false_eq_true, vp_narI, hD', S0, e1]
    exact hQ h' v2 v3 _ hF hS rfl
  | succ j ih =>
    intro i h' v2 v3 hi hF hD hS hP hT
    obtain ⟨hgm, em⟩ := mvs_ok (a0 := a0) hg i
    have e1 : ¬ mvs a0 a i 3 ≤ nI i := by rw [em 3 (by decide) (by decide), g3]; exact nI_ge (by omega) (by omega)
    have hD' : h'[0]? = some (zob 5 [.ref 1, .ref 10, .ref 75, .ref 76, .ref 77, .ref 80, .ref P, .ref T]) := hD
    have S0 := hS.1
    obtain ⟨f4, G4, q4⟩ := hS.2.2.2.2.1
    have e2 : zinb (nI i) 40 = true := zinb_nI (by omega) (by decide)
    have e3 : (nI i).toNatClampNeg = i := nI_clamp (by omega)
    have e4 : f4 i = a (41 + i) := by rw [q4 i (by rw [em.g (by decide) (by decide)]; omega)]; exact em _ (by omega) (by omega)
    obtain ⟨cf, sf, lf, t, L1, H1⟩ := id hP
    obtain ⟨cf', sf', lf', t', L2, H2⟩ := id hT
    have c1 := fun (Q : Option Value → zX → Prop) => c_Y_serversOf (z := z) (Q := Q) L1 (show i < 41 by omega) (H1 i (by omega)) (plK_ok h0 i).2
    have c2 := fun (Q : Option Value → zX → Prop) => c_Y_serversOf (z := z) (Q := Q) L2 (show i < 41 by omega) (H2 i (by omega)) (plK_ok hg i).2
    rw [e58_18]
    simp only [e58_0, e58_1, e58_2, e58_5, e58_8, e58_9, e58_12, e58_13, e58_16, e58_17, e58_19, e58_20, e58_23, e58_26, e58_29, e58_30, e58_33, e58_34, e58_37, e58_38, e58_39, e58_42, e58_43, e58_46, e58_47, e58_48, e58_51, e58_52, e58_55, e58_58, e58_59, e58_60, e58_61, e58_62, e58_63, e58_64, e58_65, e58_66, e58_67, e58_68, e58_69, e58_70, e58_73, e58_76, e58_80, e58_83, e58_84, e58_85, e58_86, e58_89, e58_92, e58_93, e58_94, e58_97, e58_98, e58_101, e58_104, zgF, zgA, zgR, zisO, zpush, zopt_some, ↓reduceIte, List.getElem?_cons_succ, List.getElem?_cons_zero, beq_self_eq_true, true_and, and_true, Bool.true_and, Bool.and_true, Bool.false_and, Bool.and_false, nI_1, not_true_eq_false, not_false_eq_true, vp_narI, hD', S0, e1, e2, e3, e4, G4, c1, c2, L1.1, L2.1]
    refine c_S_addMoves hgm hS (fun h2 F2 S2 => ?_)
    simp only [e58_0, e58_1, e58_2, e58_5, e58_8, e58_9, e58_12, e58_13, e58_16, e58_17, e58_19, e58_20, e58_23, e58_26, e58_29, e58_30, e58_33, e58_34, e58_37, e58_38, e58_39, e58_42, e58_43, e58_46, e58_47, e58_48, e58_51, e58_52, e58_55, e58_58, e58_59, e58_60, e58_61, e58_62, e58_63, e58_64, e58_65, e58_66, e58_67, e58_68, e58_69, e58_70, e58_73, e58_76, e58_80, e58_83, e58_84, e58_85, e58_86, e58_89, e58_92, e58_93, e58_94, e58_97, e58_98, e58_101, e58_104, zgF, zgA, zgR, zisO, zpush, zopt_some, ↓reduceIte, List.getElem?_cons_succ, List.getElem?_cons_zero, beq_self_eq_true, true_and, and_true, Bool.true_and, Bool.and_true, Bool.false_and, Bool.and_false, nI_1, not_true_eq_false, not_false_eq_true, vp_narI]
    refine ih (i + 1) h2 _ _ (by omega) (hF.tr F2) (F2.at hD (by omega)) S2 (hP.fr (fun q h1 h3 => F2.2 q ?_)) (hT.fr (fun q h1 h3 => F2.2 q ?_))
    · unfold zPT at hPT; omega
    · unfold zPT at hPT; omega
theorem zLo.ex {P : Nat} {cf sf lf : Nat → Int32} {t : Int32} {h h' : List zC} (hL : zLo h P cf sf lf t) (hf : ∀ j, P ≤ j → j ≤ P + 3 → h'[j]? = h[j]?) : ∃ cf sf lf t, zLo h' P cf sf lf t := ⟨cf, sf, lf, t, hL.fr hf⟩
theorem zSw.ex {h h' : List zC} {ln dr : Nat → Int32} (hL : zSw h ln dr) (hC : zCa ln dr) (hf : ∀ j, 77 ≤ j → j ≤ 79 → h'[j]? = h[j]?) : ∃ ln dr, zSw h' ln dr ∧ zCa ln dr := ⟨ln, dr, hL.fr hf, hC⟩
theorem c_D_findMoves {P T : Nat} (hg : zG a) (h0 : zG a0) (hK : zKp h P T a) (hR : zRw h P a0 (gN a 3))
    (hQ : ∀ h' : List zC, zFr zWr h h' → zKo h' T P (fmA a0 a) → Q (some (.int (fmA a0 a 4))) (h', z)) :
    Ev 58 0 [.ref 0, zU, zU, zU] [] (h, z) Q := by
  obtain ⟨hPT, hD, hS, ⟨ln, dr, hW, hC⟩, ⟨cf, sf, lf, t, hL⟩, ⟨cf', sf', lf', t', hT⟩⟩ := hK
  have pt : (P = 82 ∧ T = 86) ∨ (P = 86 ∧ T = 82) := hPT
  have hD' : h[0]? = some (zob 5 [.ref 1, .ref 10, .ref 75, .ref 76, .ref 77, .ref 80, .ref P, .ref T]) := hD
  simp only [e58_0, e58_1, e58_2, e58_5, e58_8, e58_9, e58_12, e58_13, e58_16, e58_17, e58_19, e58_20, e58_23, e58_26, e58_29, e58_30, e58_33, e58_34, e58_37, e58_38, e58_39, e58_42, e58_43, e58_46, e58_47, e58_48, e58_51, e58_52, e58_55, e58_58, e58_59, e58_60, e58_61, e58_62, e58_63, e58_64, e58_65, e58_66, e58_67, e58_68, e58_69, e58_70, e58_73, e58_76, e58_80, e58_83, e58_84, e58_85, e58_86, e58_89, e58_92, e58_93, e58_94, e58_97, e58_98, e58_101, e58_104, zgF, zgA, zgR, zisO, zpush, zopt_some, ↓reduceIte, List.getElem?_cons_succ, List.getElem?_cons_zero, beq_self_eq_true, true_and, and_true, Bool.true_and, Bool.and_true, Bool.false_and, Bool.and_false, nI_1, not_true_eq_false, not_false_eq_true, vp_narI, hD']
  refine c_D_layAll hg (by omega) hD hS hW hC hT (fun h1 ln1 dr1 F1 W1 C1 L1 => ?_)
  have D1 : h1[0]? = some (zob 5 [.ref 1, .ref 10, .ref 75, .ref 76, .ref 77, .ref 80, .ref P, .ref T]) := F1.at hD' (by omega)
  have S1 : zSt h1 1 a := hS.fr (fun j h1 h2 => F1.2 j (by omega))
  have s1 := S1.1
  simp only [e58_0, e58_1, e58_2, e58_5, e58_8, e58_9, e58_12, e58_13, e58_16, e58_17, e58_19, e58_20, e58_23, e58_26, e58_29, e58_30, e58_33, e58_34, e58_37, e58_38, e58_39, e58_42, e58_43, e58_46, e58_47, e58_48, e58_51, e58_52, e58_55, e58_58, e58_59, e58_60, e58_61, e58_62, e58_63, e58_64, e58_65, e58_66, e58_67, e58_68, e58_69, e58_70, e58_73, e58_76, e58_80, e58_83, e58_84, e58_85, e58_86, e58_89, e58_92, e58_93, e58_94, e58_97, e58_98, e58_101, e58_104, zgF, zgA, zgR, zisO, zpush, zopt_some, ↓reduceIte, List.getElem?_cons_succ, List.getElem?_cons_zero, beq_self_eq_true, true_and, and_true, Bool.true_and, Bool.and_true, Bool.false_and, Bool.and_false, nI_1, not_true_eq_false, not_false_eq_true, vp_narI, D1, s1, zpF, List.length_cons, List.length_nil]
  simp only [Nat.reduceLT, and_self, List.set_cons_succ, List.set_cons_zero, ↓reduceIte, zopt_some, e58_0, e58_1, e58_2, e58_5, e58_8, e58_9, e58_12, e58_13, e58_16, e58_17, e58_19, e58_20, e58_23, e58_26, e58_29, e58_30, e58_33, e58_34, e58_37, e58_38, e58_39, e58_42, e58_43, e58_46, e58_47, e58_48, e58_51, e58_52, e58_55, e58_58, e58_59, e58_60, e58_61, e58_62, e58_63, e58_64, e58_65, e58_66, e58_67, e58_68, e58_69, e58_70, e58_73, e58_76, e58_80, e58_83, e58_84, e58_85, e58_86, e58_89, e58_92, e58_93, e58_94, e58_97, e58_98, e58_101, e58_104, (show (0 + 1 + 1 + 1 + 1 + 1 + 1 + 1 + 1 + 1 + 1 + 1 + 1 + 1 : Nat) = 13 from rfl)]
  have S2 := S1.mv0 hg
  have F2 : zFr (fun j => 1 ≤ j ∧ j ≤ 9) h1 (h1.set 1 (zob 3 [.int (a 0), .int (a 1), .int (a 2), .ref (1 + 1), .ref (1 + 2), .ref (1 + 3), .int (a 3), .ref (1 + 4), .ref (1 + 5), .int 0, .ref (1 + 6), .ref (1 + 7), .ref (1 + 8)])) := zFr.set ⟨by omega, by omega⟩
  generalize h1.set 1 (zob 3 [.int (a 0), .int (a 1), .int (a 2), .ref (1 + 1), .ref (1 + 2), .ref (1 + 3), .int (a 3), .ref (1 + 4), .ref (1 + 5), .int 0, .ref (1 + 6), .ref (1 + 7), .ref (1 + 8)]) = h2 at S2 F2 ⊢
  have R2 : zRw h2 P a0 (gN a 3) := hR.fr (fun j h1 h2 => (F2.2 j (by omega)).trans (F1.2 j (by omega)))
  have L2 : zLy h2 T a := L1.fr (fun j h1 h2 => F2.2 j (by omega))
  refine l_D_findMoves (h := h2) hg h0 hPT (fun h3 v2 v3 n F3 S3 hn => ?_) (gN a 3) 0 h2 zU zU (by omega) zFr.rf (F2.at D1 (by omega)) S2 R2 L2.rw
  have D3 : h3[0]? = some (zob 5 [.ref 1, .ref 10, .ref 75, .ref 76, .ref 77, .ref 80, .ref P, .ref T]) := F3.at (F2.at D1 (by omega)) (by omega)
  have s3 := S3.1
  have D4 := zset_self (c := zob 5 [.ref 1, .ref 10, .ref 75, .ref 76, .ref 77, .ref 80, .ref T, .ref T]) D3
  simp only [e58_0, e58_1, e58_2, e58_5, e58_8, e58_9, e58_12, e58_13, e58_16, e58_17, e58_19, e58_20, e58_23, e58_26, e58_29, e58_30, e58_33, e58_34, e58_37, e58_38, e58_39, e58_42, e58_43, e58_46, e58_47, e58_48, e58_51, e58_52, e58_55, e58_58, e58_59, e58_60, e58_61, e58_62, e58_63, e58_64, e58_65, e58_66, e58_67, e58_68, e58_69, e58_70, e58_73, e58_76, e58_79, e58_80, e58_83, e58_84, e58_85, e58_86, e58_89, e58_92, e58_93, e58_94, e58_97, e58_98, e58_101, e58_104, zgF, zgA, zgR, zisO, zpush, zopt_some, ↓reduceIte, List.getElem?_cons_succ, List.getElem?_cons_zero, beq_self_eq_true, true_and, and_true, Bool.true_and, Bool.and_true, Bool.false_and, Bool.and_false, nI_1, not_true_eq_false, not_false_eq_true, vp_narI, D3, zpF, List.length_cons, List.length_nil, Nat.reduceAdd, Nat.reduceLT, and_self, List.set_cons_succ, List.set_cons_zero, D4]
  have F5 := (zFr.set (S := fun j => j = 0) (h := h3) (k := 0) (c := zob 5 [.ref 1, .ref 10, .ref 75, .ref 76, .ref 77, .ref 80, .ref T, .ref T]) rfl).tr (zFr.set (S := fun j => j = 0) (h := h3.set 0 (zob 5 [.ref 1, .ref 10, .ref 75, .ref 76, .ref 77, .ref 80, .ref T, .ref T])) (k := 0) (c := zob 5 [.ref 1, .ref 10, .ref 75, .ref 76, .ref 77, .ref 80, .ref T, .ref P]) rfl)
  have D5 := zset_self (c := zob 5 [.ref 1, .ref 10, .ref 75, .ref 76, .ref 77, .ref 80, .ref T, .ref P]) D4
  generalize (h3.set 0 (zob 5 [.ref 1, .ref 10, .ref 75, .ref 76, .ref 77, .ref 80, .ref T, .ref T])).set 0 (zob 5 [.ref 1, .ref 10, .ref 75, .ref 76, .ref 77, .ref 80, .ref T, .ref P]) = h5 at D5 F5 ⊢
  have S5 : zSt h5 1 (fmA a0 a) := S3.fr (fun j h1 h2 => F5.2 j (by omega))
  have s5 := S5.1
  simp only [e58_0, e58_1, e58_2, e58_5, e58_8, e58_9, e58_12, e58_13, e58_16, e58_17, e58_19, e58_20, e58_23, e58_26, e58_29, e58_30, e58_33, e58_34, e58_37, e58_38, e58_39, e58_42, e58_43, e58_46, e58_47, e58_48, e58_51, e58_52, e58_55, e58_58, e58_59, e58_60, e58_61, e58_62, e58_63, e58_64, e58_65, e58_66, e58_67, e58_68, e58_69, e58_70, e58_73, e58_76, e58_79, e58_80, e58_83, e58_84, e58_85, e58_86, e58_89, e58_92, e58_93, e58_94, e58_97, e58_98, e58_101, e58_104, zgF, zgA, zgR, zisO, zpush, zopt_some, ↓reduceIte, List.getElem?_cons_succ, List.getElem?_cons_zero, beq_self_eq_true, true_and, and_true, Bool.true_and, Bool.and_true, Bool.false_and, Bool.and_false, nI_1, not_true_eq_false, not_false_eq_true, vp_narI, D5, s5]
  have W : zFr zWr h h5 := ((((F1.mono (fun j h => by unfold zWr; omega)).tr (F2.mono (fun j h => by unfold zWr; omega))).tr (F3.mono (fun j h => by unfold zWr; omega))).tr (F5.mono (fun j h => by unfold zWr; omega)))
  have off : ∀ j, 10 ≤ j → h5[j]? = h1[j]? := fun j hj => ((F5.2 j (by omega)).trans (F3.2 j (by omega))).trans (F2.2 j (by omega))
  refine hQ h5 W ⟨⟨hPT.sw, D5, S5, W1.ex C1 (fun j h1 h2 => off j (by omega)), ?_, hL.ex (fun j h1 h2 => (off j (by omega)).trans (F1.2 j (by omega)))⟩, (fmA_ok hg).2.ly hg (L1.fr (fun j h1 h2 => off j (by omega)))⟩
  obtain ⟨c, s, l, t, q1, q2⟩ := L1
  exact q1.ex (fun j h1 h2 => off j (by omega))
end ZC
end
