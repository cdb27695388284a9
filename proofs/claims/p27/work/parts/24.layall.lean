/-! all objects are laid; what a layout answers -/
section
set_option maxRecDepth 100000
def incs (f : Nat → Int32) (l : List Nat) : Nat → Int32 := l.foldl (fun f p => upd f p (f p + 1)) f
theorem incs_app (f : Nat → Int32) (l : List Nat) (b : Nat) : incs f (l ++ [b]) = upd (incs f l) b (incs f l b + 1) := by simp [incs]
theorem incs_cong : ∀ (l : List Nat) (f g : Nat → Int32), (∀ s, s < 12 → f s = g s) → (∀ p ∈ l, p < 12) → ∀ s, s < 12 → incs f l s = incs g l s
  | [], f, g, h, _, s, hs => h s hs
  | p :: l, f, g, h, hl, s, hs => by
    refine incs_cong l (upd f p (f p + 1)) (upd g p (g p + 1)) (fun q hq => ?_) (fun q hq => hl q (List.mem_cons_of_mem _ hq)) s hs
    by_cases e : q = p
    · subst e; rw [upd_s, upd_s, h q hq]
    · rw [upd_n e, upd_n e, h q hq]
def ldF (a : Nat → Int32) : Nat → Nat → Int32
  | 0 => fun _ => 0
  | k + 1 => incs (ldF a k) (plK a k)
def tot (a : Nat → Int32) : Nat → Int32
  | 0 => 0
  | k + 1 => tot a k + nI (plK a k).length
/-- a row of the layout got a list -/
def zRL (r : Nat) (cf0 sf0 lf0 : Nat → Int32) (t0 : Int32) (l : List Nat) (cf sf lf : Nat → Int32) (t : Int32) : Prop :=
  cf r = nI l.length ∧ (∀ k, k ≠ r → cf k = cf0 k) ∧ (∀ j, j < l.length → sf (3 * r + j) = nI (l.getD j 0)) ∧ (∀ k, k < 3 * r ∨ 3 * r + 3 ≤ k → sf k = sf0 k) ∧ lf = incs lf0 l ∧ t = t0 + nI l.length
theorem zRL.add {r : Nat} {cf0 sf0 lf0 : Nat → Int32} {t0 : Int32} {l : List Nat} {cf sf lf : Nat → Int32} {t : Int32} (h : zRL r cf0 sf0 lf0 t0 l cf sf lf t) (hl : l.length < 3) (b : Nat) : zRL r cf0 sf0 lf0 t0 (l ++ [b]) (upd cf r (nI (l.length + 1))) (upd sf (3 * r + l.length) (nI b)) (upd lf b (lf b + 1)) (t + 1) := by
  obtain ⟨h1, h2, h3, h4, h5, h6⟩ := h
  refine ⟨by rw [upd_s, List.length_append]; rfl, fun k hk => by rw [upd_n hk]; exact h2 k hk, fun j hj => ?_, fun k hk => by rw [upd_n (by omega)]; exact h4 k hk, by rw [incs_app, h5], ?_⟩
  · rw [List.length_append, List.length_singleton] at hj
    by_cases e : j = l.length
    · subst e
      rw [upd_s]
      simp
    · rw [upd_n (by omega), h3 j (by omega)]
      simp [List.getD_eq_getElem?_getD, List.getElem?_append_left (show j < l.length by omega)]
  · rw [h6, List.length_append, List.length_singleton, nI_succ, Int32.add_assoc]
def zDo (h : List zC) (P T : Nat) : Prop := h[0]? = some (zob 5 [.ref 1, .ref 10, .ref 75, .ref 76, .ref 77, .ref 80, .ref P, .ref T])
def zLA (a : Nat → Int32) (i : Nat) (cf sf lf : Nat → Int32) (t : Int32) : Prop :=
  (∀ k, k < i → cf k = nI (plK a k).length ∧ ∀ j, j < (plK a k).length → sf (3 * k + j) = nI ((plK a k).getD j 0)) ∧ (∀ k, i ≤ k → k < 41 → cf k = 0) ∧ (∀ s, s < 12 → lf s = ldF a i s) ∧ t = tot a i
def zLy (h : List zC) (y : Nat) (a : Nat → Int32) : Prop := ∃ cf sf lf t, zLo h y cf sf lf t ∧ zLA a (gN a 3) cf sf lf t
section ZC
variable {h : List zC} {z : Nat × (Nat × (Nat → Int32))} {k : Nat} {a : Nat → Int32} {Q : Option Value → zX → Prop}
theorem l_W_lay {r o y : Nat} {pin : Int32} {ln dr cf0 sf0 lf0 : Nat → Int32} {t0 : Int32} (hg : zG a) (hr : r < 41) (hy : 80 ≤ y) (hd : ∀ s, s < gN a 2 → tp a s = true → ln (r * 12 + s) = nI (lenS a s o)) :
    ∀ (c i : Nat) (l : List Nat) (h : List zC) (cf sf lf : Nat → Int32) (t : Int32) (v7 v8 : Value), i + c = gN a 0 → l.length = i → (∀ p ∈ l, p < gN a 2) → (i = 0 → pnd a pin = false) → zSt h 1 a → zSw h ln dr → zLo h y cf sf lf t → zRL r cf0 sf0 lf0 t0 l cf sf lf t →
    (∀ (h' : List zC) (cf' sf' lf' : Nat → Int32) (t' : Int32), zFr (fun j => y ≤ j ∧ j ≤ y + 3) h h' → zLo h' y cf' sf' lf' t' → zRL r cf0 sf0 lf0 t0 (grow a o c l) cf' sf' lf' t' → Q none (h', z)) →
    Ev 25 6 [.ref 77, .ref 1, .int (nI r), .int pin, .ref y, .int (nI (rkM a l)), .int (nI i), v7, v8] [] (h, z) Q := by
  obtain ⟨h0, h01, h03⟩ := hg.1
  obtain ⟨h2, h12⟩ := hg.2.2.1
  intro c
  induction c with
  | zero =>
    intro i l h cf sf lf t v7 v8 hi hli hl hpn hS hW hL hR hQ
    have hi : i = gN a 0 := by omega
    subst hi
    have e1 : a 0 ≤ nI (gN a 0) := by rw [← h0]; exact Int32.le_refl _
    simp only [e25_0, e25_1, e25_3, e25_4, e25_6, e25_8, e25_9, e25_12, e25_15, e25_17, e25_20, e25_21, e25_22, e25_25, e25_28, e25_29, e25_32, e25_33, e25_35, e25_37, e25_40, e25_41, e25_44, e25_45, e25_46, e25_47, e25_49, e25_52, e25_54, e25_56, e25_58, e25_61, e25_62, e25_64, e25_65, e25_67, e25_70, e25_72, e25_73, e25_74, e25_77, e25_79, e25_80, e25_81, e25_82, e25_84, e25_87, e25_90, zgF, zgA, zgR, zisO, zpush, zopt_some, ↓reduceIte, List.getElem?_cons_succ, List.getElem?_cons_zero, beq_self_eq_true, true_and, and_true, Bool.true_and, Bool.and_true, Bool.false_and, Bool.and_false, nI_1, not_true_eq_false, not_false_eq_true, vp_narI, hS.1, e1]
    exact hQ h cf sf lf t zFr.rf hL hR
  | succ c ih =>
    intro i l h cf sf lf t v7 v8 hi hli hl hpn hS hW hL hR hQ
    have e1 : ¬ a 0 ≤ nI i := by rw [h0]; exact nI_ge (by omega) (by omega)
    have hT := fun (s : Int32) (Q : Option Value → zX → Prop) => c_S_takesPart (s := s) (Q := Q) (z := z) hS hg
    have hH := fun (Q : Option Value → zX → Prop) => c_W_highest (Q := Q) (z := z) hg hr hS hW hl hd
    obtain ⟨fr, hfr, er⟩ := hS.2.1
    have hmain : Ev 25 44 [.ref 77, .ref 1, .int (nI r), .int pin, .ref y, .int (nI (rkM a l)), .int (nI i), .int 0, v8] [] (h, z) Q := by
      simp only [e25_0, e25_1, e25_3, e25_4, e25_8, e25_9, e25_12, e25_15, e25_17, e25_20, e25_21, e25_22, e25_25, e25_28, e25_29, e25_32, e25_33, e25_35, e25_37, e25_40, e25_41, e25_44, e25_45, e25_46, e25_47, e25_49, e25_52, e25_54, e25_56, e25_58, e25_61, e25_62, e25_64, e25_65, e25_67, e25_70, e25_72, e25_73, e25_74, e25_77, e25_79, e25_80, e25_81, e25_82, e25_84, e25_87, e25_90, zgF, zgA, zgR, zisO, zpush, zopt_some, ↓reduceIte, List.getElem?_cons_succ, List.getElem?_cons_zero, beq_self_eq_true, true_and, and_true, Bool.true_and, Bool.and_true, Bool.false_and, Bool.and_false, nI_1, not_true_eq_false, not_false_eq_true, vp_narI, hW.1, hH]
      cases hb : bst a o l (gN a 2) with
      | none =>
        simp only [encB, zgF, zgA, zgR, zisO, zpush, zopt_some, ↓reduceIte, List.getElem?_cons_succ, List.getElem?_cons_zero, beq_self_eq_true, true_and, and_true, Bool.true_and, Bool.and_true, Bool.false_and, Bool.and_false, nI_1, not_true_eq_false, not_false_eq_true, vp_narI]
        refine hQ h cf sf lf t zFr.rf hL ?_
        have : grow a o (c + 1) l = l := by rw [grow, hb]
        rw [this]; exact hR
      | some b =>
        have hb0 := (bst_lt a o l _ b hb).1
        have e9 : ¬ nI b = -6 := fun q => absurd (congrArg Int32.toInt q) (by rw [nI_toInt (by omega)]; show ¬ (b : Int) = -6; omega)
        simp only [encB, e9, zgF, zgA, zgR, zisO, zpush, zopt_some, ↓reduceIte, List.getElem?_cons_succ, List.getElem?_cons_zero, beq_self_eq_true, true_and, and_true, Bool.true_and, Bool.and_true, Bool.false_and, Bool.and_false, nI_1, not_true_eq_false, not_false_eq_true, vp_narI, hL.1]
        refine c_Y_add hL hr (show b < 12 by omega) hR.1 (by omega) (fun h' f1 hL' => ?_)
        have hS' := hS.fr (fun j h1 h2 => f1.2 j (by omega))
        have hW' := hW.fr (fun j h1 h2 => f1.2 j (by omega))
        obtain ⟨fr', hfr', er'⟩ := hS'.2.1
        have e3 : zinb (nI b) 12 = true := zinb_nI (by omega) (by decide)
        have e4 : (nI b).toNatClampNeg = b := nI_clamp (by omega)
        have hrb := (hg.2.2.2.2.2.1 b hb0).1
        have e5 : nI (rkM a l) ||| ((1 : Int32) <<< (a (5 + b) &&& 31)) = nI (rkM a (l ++ [b])) := by
          rw [hrb.1, (rk_or _ (rkM_ok hg hl).1 _ hrb.2).1, rkM_app]
        simp only [e25_0, e25_1, e25_3, e25_4, e25_8, e25_9, e25_12, e25_15, e25_17, e25_20, e25_21, e25_22, e25_25, e25_28, e25_29, e25_32, e25_33, e25_35, e25_37, e25_40, e25_41, e25_44, e25_45, e25_46, e25_47, e25_49, e25_52, e25_54, e25_56, e25_58, e25_61, e25_62, e25_64, e25_65, e25_67, e25_70, e25_72, e25_73, e25_74, e25_77, e25_79, e25_80, e25_81, e25_82, e25_84, e25_87, e25_90, zgF, zgA, zgR, zisO, zpush, zopt_some, ↓reduceIte, List.getElem?_cons_succ, List.getElem?_cons_zero, beq_self_eq_true, true_and, and_true, Bool.true_and, Bool.and_true, Bool.false_and, Bool.and_false, nI_1, not_true_eq_false, not_false_eq_true, vp_narI, hS'.1, hfr', e3, e4, er' b hb0, e5]
        have hgr : grow a o (c + 1) l = grow a o c (l ++ [b]) := by rw [grow, hb]
        refine ih (i + 1) (l ++ [b]) h' _ _ _ _ _ _ (by omega) (by rw [List.length_append, hli]; rfl) (fun p hp => ?_) (fun h => absurd h (by omega)) hS' hW' hL' ?_ (fun h'' cf' sf' lf' t' f2 => ?_)
        · rcases List.mem_append.mp hp with hp | hp
          · exact hl p hp
          · rw [List.mem_singleton.mp hp]; exact hb0
        · exact hR.add (by omega) b
        · rw [hgr] at hQ
          exact hQ h'' cf' sf' lf' t' (f1.tr f2)
    by_cases hi0 : i = 0
    · have hp := hpn hi0
      subst hi0
      have e2 : nI 0 = 0 := nI_0
      have e3 : (zinb pin (gN a 2) && tp a pin.toNatClampNeg) = false := hp
      have hmain2 := hmain
      rw [e2] at hmain2 ⊢
      rw [e25_6]
      simp only [e25_8, e25_9, e25_12, e25_15, e25_17, e25_20, e25_21, e25_22, e25_25, e25_32, e25_33, e25_35, e25_37, zgF, zgA, zgR, zisO, zpush, zopt_some, ↓reduceIte, List.getElem?_cons_succ, List.getElem?_cons_zero, beq_self_eq_true, true_and, and_true, Bool.true_and, Bool.and_true, Bool.false_and, Bool.and_false, nI_1, not_true_eq_false, not_false_eq_true, vp_narI, hS.1, hT, e3, zb_eq0]
      rw [e2] at e1
      simp only [e1, zgF, zgA, zgR, zisO, zpush, zopt_some, ↓reduceIte, List.getElem?_cons_succ, List.getElem?_cons_zero, beq_self_eq_true, true_and, and_true, Bool.true_and, Bool.and_true, Bool.false_and, Bool.and_false, nI_1, not_true_eq_false, not_false_eq_true, vp_narI]
      exact hmain2
    · have e2 : ¬ nI i = 0 := nI_ne0 (by omega) (by omega)
      rw [e25_6]
      simp only [e25_8, e25_9, e25_12, e25_15, e25_17, e25_32, e25_33, e25_35, e25_37, zgF, zgA, zgR, zisO, zpush, zopt_some, ↓reduceIte, List.getElem?_cons_succ, List.getElem?_cons_zero, beq_self_eq_true, true_and, and_true, Bool.true_and, Bool.and_true, Bool.false_and, Bool.and_false, nI_1, not_true_eq_false, not_false_eq_true, vp_narI, hS.1, e1, e2]
      exact hmain
theorem c_W_lay {r o y : Nat} {pin : Int32} {ln dr cf sf lf : Nat → Int32} {t : Int32} (hg : zG a) (hr : r < 41) (hy : 80 ≤ y) (hS : zSt h 1 a) (hW : zSw h ln dr) (hd : ∀ s, s < gN a 2 → tp a s = true → ln (r * 12 + s) = nI (lenS a s o)) (hL : zLo h y cf sf lf t) (hc : cf r = 0)
    (hQ : ∀ (h' : List zC) (cf' sf' lf' : Nat → Int32) (t' : Int32), zFr (fun j => y ≤ j ∧ j ≤ y + 3) h h' → zLo h' y cf' sf' lf' t' → zRL r cf sf lf t (plc a o pin) cf' sf' lf' t' → Q none (h', z)) :
    Ev 25 0 [.ref 77, .ref 1, .int (nI r), .int pin, .ref y, zU, zU, zU, zU] [] (h, z) Q := by
  obtain ⟨h0, h01, h03⟩ := hg.1
  obtain ⟨h2, h12⟩ := hg.2.2.1
  have hR0 : zRL r cf sf lf t [] cf sf lf t := ⟨hc, fun _ _ => rfl, fun j hj => absurd hj (by simp), fun _ _ => rfl, rfl, by rw [List.length_nil, nI_0, Int32.add_zero]⟩
  by_cases hp : pnd a pin = true
  · obtain ⟨b, hb0, rfl, e4, htp⟩ := pnd_ex hg hp
    have e3 : zinb (nI b) 12 = true := zinb_nI (by omega) (by decide)
    have e6 : (zinb (nI b) (gN a 2) && tp a (nI b).toNatClampNeg) = true := hp
    have e1 : ¬ a 0 ≤ 0 := by rw [h0, ← nI_0]; exact nI_ge (show 0 < gN a 0 by omega) (by omega)
    have e9 : ¬ nI b = -6 := fun q => absurd (congrArg Int32.toInt q) (by rw [nI_toInt (by omega)]; show ¬ (b : Int) = -6; omega)
    have hT := fun (s : Int32) (Q : Option Value → zX → Prop) => c_S_takesPart (s := s) (Q := Q) (z := z) hS hg
    simp only [e25_0, e25_1, e25_3, e25_4]
    rw [e25_6]
    simp only [e25_0, e25_1, e25_3, e25_4, e25_8, e25_9, e25_12, e25_15, e25_17, e25_20, e25_21, e25_22, e25_25, e25_28, e25_29, e25_32, e25_33, e25_35, e25_37, e25_40, e25_41, e25_44, e25_45, e25_46, e25_47, e25_49, e25_52, e25_54, e25_56, e25_58, e25_61, e25_62, e25_64, e25_65, e25_67, e25_70, e25_72, e25_73, e25_74, e25_77, e25_79, e25_80, e25_81, e25_82, e25_84, e25_87, e25_90, zgF, zgA, zgR, zisO, zpush, zopt_some, ↓reduceIte, List.getElem?_cons_succ, List.getElem?_cons_zero, beq_self_eq_true, true_and, and_true, Bool.true_and, Bool.and_true, Bool.false_and, Bool.and_false, nI_1, not_true_eq_false, not_false_eq_true, vp_narI, hS.1, hT, e1, e6, zb_eq0, Bool.true_eq_false, e9, hL.1]
    have z10 : ¬ (1 : Int32) = 0 := by decide
    simp only [e25_0, e25_1, e25_3, e25_4, e25_8, e25_9, e25_12, e25_15, e25_17, e25_20, e25_21, e25_22, e25_25, e25_28, e25_29, e25_32, e25_33, e25_35, e25_37, e25_40, e25_41, e25_44, e25_45, e25_46, e25_47, e25_49, e25_52, e25_54, e25_56, e25_58, e25_61, e25_62, e25_64, e25_65, e25_67, e25_70, e25_72, e25_73, e25_74, e25_77, e25_79, e25_80, e25_81, e25_82, e25_84, e25_87, e25_90, zgF, zgA, zgR, zisO, zpush, zopt_some, ↓reduceIte, List.getElem?_cons_succ, List.getElem?_cons_zero, beq_self_eq_true, true_and, and_true, Bool.true_and, Bool.and_true, Bool.false_and, Bool.and_false, nI_1, not_true_eq_false, not_false_eq_true, vp_narI, z10, e9, hL.1]
    refine c_Y_add hL hr (show b < 12 by omega) hR0.1 (by decide) (fun h' f1 hL' => ?_)
    have hS' := hS.fr (fun j h1 h2 => f1.2 j (by omega))
    have hW' := hW.fr (fun j h1 h2 => f1.2 j (by omega))
    obtain ⟨fr', hfr', er'⟩ := hS'.2.1
    have hrb := (hg.2.2.2.2.2.1 b hb0).1
    have e5 : (0 : Int32) ||| ((1 : Int32) <<< (a (5 + b) &&& 31)) = nI (rkM a [b]) := by
      have h9 := (rk_or 0 (by decide) _ hrb.2).1
      rw [hrb.1]
      rw [nI_0] at h9
      rw [h9]
      rfl
    simp only [e25_0, e25_1, e25_3, e25_4, e25_8, e25_9, e25_12, e25_15, e25_17, e25_20, e25_21, e25_22, e25_25, e25_28, e25_29, e25_32, e25_33, e25_35, e25_37, e25_40, e25_41, e25_44, e25_45, e25_46, e25_47, e25_49, e25_52, e25_54, e25_56, e25_58, e25_61, e25_62, e25_64, e25_65, e25_67, e25_70, e25_72, e25_73, e25_74, e25_77, e25_79, e25_80, e25_81, e25_82, e25_84, e25_87, e25_90, zgF, zgA, zgR, zisO, zpush, zopt_some, ↓reduceIte, List.getElem?_cons_succ, List.getElem?_cons_zero, beq_self_eq_true, true_and, and_true, Bool.true_and, Bool.and_true, Bool.false_and, Bool.and_false, nI_1, not_true_eq_false, not_false_eq_true, vp_narI, hS'.1, hfr', e3, e4, er' b hb0, e5]
    have e7 : (0 : Int32) + 1 = nI 1 := by decide
    rw [e7]
    have hpl : plc a o (nI b) = grow a o (gN a 0 - 1) ([] ++ [b]) := by
      unfold plc
      rw [if_pos hp, e4]; rfl
    rw [hpl] at hQ
    refine l_W_lay hg hr hy hd (gN a 0 - 1) 1 [b] h' _ _ _ _ _ _ (by omega) rfl (fun p hp => by rw [List.mem_singleton.mp hp]; exact hb0) (fun h => absurd h (by omega)) hS' hW' hL' (hR0.add (by decide) b) (fun h'' cf' sf' lf' t' f2 => hQ h'' cf' sf' lf' t' (f1.tr f2))
  · have hp : pnd a pin = false := by simpa using hp
    have hpl : plc a o pin = grow a o (gN a 0) [] := by
      unfold plc
      rw [hp]; rfl
    rw [hpl] at hQ
    have := l_W_lay (Q := Q) (z := z) (pin := pin) hg hr hy hd (gN a 0) 0 [] h cf sf lf t zU zU (by omega) rfl (fun p hp => by cases hp) (fun _ => hp) hS hW hL hR0 hQ
    simp only [e25_0, e25_1, e25_3, e25_4]
    exact this
theorem plK_ok {a : Nat → Int32} (hg : zG a) (k : Nat) : (∀ p ∈ plK a k, p < 12) ∧ (plK a k).length ≤ 3 := by
  have := plc_ok hg (gN a (41 + k)) (a (81 + k))
  exact ⟨fun p hp => Nat.lt_of_lt_of_le (this.1 p hp).1 hg.2.2.1.2, this.2⟩
theorem l_D_layAll {y P T : Nat} (hg : zG a) (hy : 80 ≤ y) : ∀ (j i : Nat) (h : List zC) (ln dr cf sf lf : Nat → Int32) (t : Int32), i + j = gN a 3 → zDo h P T → zSt h 1 a → zSw h ln dr → zCa ln dr → zLo h y cf sf lf t → zLA a i cf sf lf t →
    (∀ (h' : List zC) (ln' dr' : Nat → Int32), zFr (fun j => (78 ≤ j ∧ j ≤ 79) ∨ (y ≤ j ∧ j ≤ y + 3)) h h' → zSw h' ln' dr' → zCa ln' dr' → zLy h' y a → Q none (h', z)) →
    Ev 57 6 [.ref 0, .ref y, .int (nI i)] [] (h, z) Q := by
  obtain ⟨h3, h40⟩ := hg.2.2.2.1
  intro j
  induction j with
  | zero =>
    intro i h ln dr cf sf lf t hi hD hS hW hC hL hA hQ
    have hi : i = gN a 3 := by omega
    subst hi
    have e1 : a 3 ≤ nI (gN a 3) := by rw [← h3]; exact Int32.le_refl _
    have hD' : h[0]? = _ := hD
    simp only [e57_0, e57_1, e57_4, e57_5, e57_6, e57_7, e57_8, e57_11, e57_14, e57_17, e57_18, e57_21, e57_22, e57_25, e57_26, e57_27, e57_30, e57_33, e57_34, e57_35, e57_38, e57_39, e57_42, e57_43, e57_46, e57_47, e57_48, e57_51, e57_54, e57_55, e57_56, e57_57, e57_60, e57_63, e57_66, zgF, zgA, zgR, zisO, zpush, zopt_some, ↓reduceIte, List.getElem?_cons_succ, List.getElem?_cons_zero, beq_self_eq_true, true_and, and_true, Bool.true_and, Bool.and_true, Bool.false_and, Bool.and_false, nI_1, not_true_eq_false, not_false_eq_true, vp_narI, hD', hS.1, e1]
    exact hQ h ln dr zFr.rf hW hC ⟨cf, sf, lf, t, hL, hA⟩
  | succ j ih =>
    intro i h ln dr cf sf lf t hi hD hS hW hC hL hA hQ
    have hlt : i < gN a 3 := by omega
    have e1 : ¬ a 3 ≤ nI i := by rw [h3]; exact nI_ge hlt (by omega)
    have e3 : zinb (nI i) 40 = true := zinb_nI (by omega) (by decide)
    have e4 : (nI i).toNatClampNeg = i := nI_clamp (by omega)
    have hD' : h[0]? = _ := hD
    obtain ⟨fo, hfo, eo⟩ := hS.2.2.2.2.1
    obtain ⟨ho1, ho2⟩ := (hg.2.2.2.2.2.2 i hlt).1
    rw [e57_6]
    simp only [e57_0, e57_1, e57_4, e57_5, e57_7, e57_8, e57_11, e57_14, e57_17, e57_18, e57_21, e57_22, e57_25, e57_26, e57_27, e57_30, e57_33, e57_34, e57_35, e57_38, e57_39, e57_42, e57_43, e57_46, e57_47, e57_48, e57_51, e57_54, e57_55, e57_56, e57_57, e57_60, e57_63, e57_66, zgF, zgA, zgR, zisO, zpush, zopt_some, ↓reduceIte, List.getElem?_cons_succ, List.getElem?_cons_zero, beq_self_eq_true, true_and, and_true, Bool.true_and, Bool.and_true, Bool.false_and, Bool.and_false, nI_1, not_true_eq_false, not_false_eq_true, vp_narI, hD', hS.1, hW.1, e1, e3, e4, hfo, eo i hlt]
    rw [ho1]
    refine c_W_draw hg (show i < 41 by omega) ho2 hS hW hC (fun h1 ln1 dr1 f1 hW1 hC1 hd1 => ?_)
    have hD1 : h1[0]? = _ := f1.at hD (by omega)
    have hS1 := hS.fr (fun j h1 h2 => f1.2 j (by omega))
    have hL1 := hL.fr (fun j h1 h2 => f1.2 j (by omega))
    obtain ⟨fp, hfp, ep⟩ := hS1.2.2.2.2.2.1
    simp only [e57_0, e57_1, e57_4, e57_5, e57_7, e57_8, e57_11, e57_14, e57_17, e57_18, e57_21, e57_22, e57_25, e57_26, e57_27, e57_30, e57_33, e57_34, e57_35, e57_38, e57_39, e57_42, e57_43, e57_46, e57_47, e57_48, e57_51, e57_54, e57_55, e57_56, e57_57, e57_60, e57_63, e57_66, zgF, zgA, zgR, zisO, zpush, zopt_some, ↓reduceIte, List.getElem?_cons_succ, List.getElem?_cons_zero, beq_self_eq_true, true_and, and_true, Bool.true_and, Bool.and_true, Bool.false_and, Bool.and_false, nI_1, not_true_eq_false, not_false_eq_true, vp_narI, hD1, hS1.1, hW1.1, e3, e4, hfp, ep i hlt]
    refine c_W_lay hg (show i < 41 by omega) hy hS1 hW1 hd1 hL1 (hA.2.1 i (by omega) (by omega)) (fun h2 cf2 sf2 lf2 t2 f2 hL2 hR2 => ?_)
    have hR2 : zRL i cf sf lf t (plK a i) cf2 sf2 lf2 t2 := hR2
    have hD2 : zDo h2 P T := f2.at hD1 (by omega)
    have hS2 := hS1.fr (fun j h1 h2 => f2.2 j (by omega))
    have hW2 := hW1.fr (fun j h1 h2 => f2.2 j (by omega))
    obtain ⟨q1, q2, q3, q4, q5, q6⟩ := hR2
    obtain ⟨p1, p2⟩ := plK_ok hg i
    have f12 : zFr (fun j => (78 ≤ j ∧ j ≤ 79) ∨ (y ≤ j ∧ j ≤ y + 3)) h h2 := (f1.mono (fun j hj => Or.inl hj)).tr (f2.mono (fun j hj => Or.inr hj))
    simp only [e57_0, e57_1, e57_4, e57_5, e57_7, e57_8, e57_11, e57_14, e57_17, e57_18, e57_21, e57_22, e57_25, e57_26, e57_27, e57_30, e57_33, e57_34, e57_35, e57_38, e57_39, e57_42, e57_43, e57_46, e57_47, e57_48, e57_51, e57_54, e57_55, e57_56, e57_57, e57_60, e57_63, e57_66, zgF, zgA, zgR, zisO, zpush, zopt_some, ↓reduceIte, List.getElem?_cons_succ, List.getElem?_cons_zero, beq_self_eq_true, true_and, and_true, Bool.true_and, Bool.and_true, Bool.false_and, Bool.and_false, nI_1, not_true_eq_false, not_false_eq_true, vp_narI]
    refine ih (i + 1) h2 ln1 dr1 cf2 sf2 lf2 t2 (by omega) hD2 hS2 hW2 hC1 hL2 ⟨fun k hk => ?_, fun k hk1 hk2 => ?_, fun s hs => ?_, ?_⟩ (fun h' ln' dr' f3 => hQ h' ln' dr' (f12.tr f3))
    · by_cases e : k = i
      · subst e; exact ⟨q1, q3⟩
      · obtain ⟨g1, g2⟩ := hA.1 k (by omega)
        refine ⟨by rw [q2 k e]; exact g1, fun j hj => ?_⟩
        have := (plK_ok hg k).2
        rw [q4 _ (by omega)]
        exact g2 j hj
    · rw [q2 k (by omega)]
      exact hA.2.1 k (by omega) hk2
    · rw [q5]
      exact incs_cong _ _ _ hA.2.2.1 p1 s hs
    · rw [q6, hA.2.2.2]; rfl
theorem c_D_layAll {y P T : Nat} {ln dr cf sf lf : Nat → Int32} {t : Int32} (hg : zG a) (hy : 80 ≤ y) (hD : zDo h P T) (hS : zSt h 1 a) (hW : zSw h ln dr) (hC : zCa ln dr) (hL : zLo h y cf sf lf t)
    (hQ : ∀ (h' : List zC) (ln' dr' : Nat → Int32), zFr (fun j => (78 ≤ j ∧ j ≤ 79) ∨ (y ≤ j ∧ j ≤ y + 3)) h h' → zSw h' ln' dr' → zCa ln' dr' → zLy h' y a → Q none (h', z)) :
    Ev 57 0 [.ref 0, .ref y, zU] [] (h, z) Q := by
  simp only [e57_0, e57_1, zgF, zgA, zgR, zisO, zpush, zopt_some, ↓reduceIte, List.getElem?_cons_succ, List.getElem?_cons_zero, beq_self_eq_true, true_and, and_true, Bool.true_and, Bool.and_true, Bool.false_and, Bool.and_false, nI_1, not_true_eq_false, not_false_eq_true, vp_narI, hL.1]
  refine c_Y_clear hL (fun h1 cf1 lf1 f1 hL1 hc1 hl1 => ?_)
  simp only [e57_4, e57_5, zgF, zgA, zgR, zisO, zpush, zopt_some, ↓reduceIte, List.getElem?_cons_succ, List.getElem?_cons_zero, beq_self_eq_true, true_and, and_true, Bool.true_and, Bool.and_true, Bool.false_and, Bool.and_false, nI_1, not_true_eq_false, not_false_eq_true, vp_narI]
  have f1' := f1.mono (T := fun j => (78 ≤ j ∧ j ≤ 79) ∨ (y ≤ j ∧ j ≤ y + 3)) (fun j hj => Or.inr hj)
  exact l_D_layAll hg hy (gN a 3) 0 h1 ln dr cf1 sf lf1 0 (by omega) (f1.at hD (by omega)) (hS.fr (fun j h1 h2 => f1.2 j (by omega))) (hW.fr (fun j h1 h2 => f1.2 j (by omega))) hC hL1 ⟨fun k hk => absurd hk (by omega), fun k _ hk => hc1 k hk, fun s hs => hl1 s hs, rfl⟩ (fun h' ln' dr' f2 => hQ h' ln' dr' (f1'.tr f2))
end ZC
end
