/-! places: what they are; the straws' methods lay them -/
section
set_option maxRecDepth 100000
def lenS (a : Nat → Int32) (s o : Nat) : Nat := lenN (1000 * o + gN a 1) s (gN a (17 + s))
/-- a server's rack has one of the list -/
def tkn (a : Nat → Int32) (l : List Nat) (s : Nat) : Bool := l.any (fun p => decide (a (5 + s) = a (5 + p)))
def cnd (a : Nat → Int32) (l : List Nat) (s : Nat) : Bool := tp a s && !tkn a l s
/-- the one that stands above all others of the first i, racks of the list left out -/
def bst (a : Nat → Int32) (o : Nat) (l : List Nat) : Nat → Option Nat
  | 0 => none
  | i + 1 => if cnd a l i = true then (match bst a o l i with
    | none => some i
    | some b => if lenS a b o < lenS a i o then some i else some b) else bst a o l i
def grow (a : Nat → Int32) (o : Nat) : Nat → List Nat → List Nat
  | 0, l => l
  | c + 1, l => match bst a o l (gN a 2) with
    | none => l
    | some b => grow a o c (l ++ [b])
def pnd (a : Nat → Int32) (pin : Int32) : Bool := zinb pin (gN a 2) && tp a pin.toNatClampNeg
/-- the places of an object -/
def plc (a : Nat → Int32) (o : Nat) (pin : Int32) : List Nat := if pnd a pin = true then grow a o (gN a 0 - 1) [pin.toNatClampNeg] else grow a o (gN a 0) []
def plK (a : Nat → Int32) (k : Nat) : List Nat := plc a (gN a (41 + k)) (a (81 + k))
theorem bst_lt (a : Nat → Int32) (o : Nat) (l : List Nat) : ∀ i b, bst a o l i = some b → b < i ∧ cnd a l b = true
  | 0, b, h => by cases h
  | i + 1, b, h => by
    unfold bst at h
    split at h
    next hc =>
      split at h
      next => cases h; exact ⟨by omega, hc⟩
      next b' hb' =>
        split at h
        next => cases h; exact ⟨by omega, hc⟩
        next =>
          cases h
          have := bst_lt a o l i b hb'
          exact ⟨by omega, this.2⟩
    next =>
      have := bst_lt a o l i b h
      exact ⟨by omega, this.2⟩
theorem grow_ok (a : Nat → Int32) (o : Nat) : ∀ (c : Nat) (l : List Nat), (∀ p ∈ l, p < gN a 2 ∧ tp a p = true) → (∀ p ∈ grow a o c l, p < gN a 2 ∧ tp a p = true) ∧ (grow a o c l).length ≤ l.length + c
  | 0, l, h => ⟨h, Nat.le_refl _⟩
  | c + 1, l, h => by
    unfold grow
    split
    next => exact ⟨h, by omega⟩
    next b hb =>
      have hb2 := bst_lt a o l _ b hb
      have hb3 : tp a b = true := by
        have := hb2.2
        unfold cnd at this
        simp only [Bool.and_eq_true] at this
        exact this.1
      have := grow_ok a o c (l ++ [b]) (fun p hp => by
        rcases List.mem_append.mp hp with hp | hp
        · exact h p hp
        · rw [List.mem_singleton.mp hp]; exact ⟨hb2.1, hb3⟩)
      refine ⟨this.1, ?_⟩
      have h2 := this.2
      rw [List.length_append, List.length_singleton] at h2
      omega
theorem pnd_ex {a : Nat → Int32} {pin : Int32} (hg : zG a) (h : pnd a pin = true) : ∃ j, j < gN a 2 ∧ pin = nI j ∧ pin.toNatClampNeg = j ∧ tp a j = true := by
  have h12 := hg.2.2.1.2
  unfold pnd at h
  simp only [Bool.and_eq_true] at h
  obtain ⟨j, hj, rfl⟩ := zinb_ex h.1 (by omega)
  have e : (nI j).toNatClampNeg = j := nI_clamp (by omega)
  rw [e] at h
  exact ⟨j, hj, rfl, e, h.2⟩
theorem plc_ok {a : Nat → Int32} (hg : zG a) (o : Nat) (pin : Int32) : (∀ p ∈ plc a o pin, p < gN a 2 ∧ tp a p = true) ∧ (plc a o pin).length ≤ 3 := by
  have h3 := hg.1.2
  unfold plc
  split
  next h =>
    obtain ⟨j, hj, -, e, ht⟩ := pnd_ex hg h
    have := grow_ok a o (gN a 0 - 1) [pin.toNatClampNeg] (fun p hp => by rw [List.mem_singleton.mp hp, e]; exact ⟨hj, ht⟩)
    refine ⟨this.1, ?_⟩
    have h4 := this.2
    rw [List.length_singleton] at h4
    omega
  next h =>
    have := grow_ok a o (gN a 0) [] (fun p hp => by cases hp)
    refine ⟨this.1, ?_⟩
    have h4 := this.2
    rw [List.length_nil] at h4
    omega
/-! racks as a mask -/
def rkM (a : Nat → Int32) (l : List Nat) : Nat := l.foldl (fun T p => T ||| 2 ^ gN a (5 + p)) 0
theorem rk_or : ∀ t, t < 64 → ∀ r, r < 6 → (nI t ||| ((1 : Int32) <<< (nI r &&& 31))) = nI (t ||| 2 ^ r) ∧ t ||| 2 ^ r < 64 := by decide +kernel
theorem rk_bt : ∀ t, t < 64 → ∀ r, r < 6 → ((nI t >>> (nI r &&& 31)) &&& 1) = nI (if t.testBit r = true then 1 else 0) := by decide +kernel
theorem rkM_app (a : Nat → Int32) (l : List Nat) (b : Nat) : rkM a (l ++ [b]) = rkM a l ||| 2 ^ gN a (5 + b) := by simp [rkM]
theorem rkM_go {a : Nat → Int32} (hg : zG a) : ∀ (l : List Nat) (T : Nat), T < 64 → (∀ p ∈ l, p < gN a 2) → l.foldl (fun T p => T ||| 2 ^ gN a (5 + p)) T < 64 ∧ ∀ r, r < 6 → (l.foldl (fun T p => T ||| 2 ^ gN a (5 + p)) T).testBit r = (T.testBit r || l.any (fun p => decide (r = gN a (5 + p))))
  | [], T, hT, _ => ⟨hT, fun r _ => by simp⟩
  | p :: l, T, hT, hl => by
    have hp := hl p List.mem_cons_self
    have hr := (hg.2.2.2.2.2.1 p hp).1.2
    have h1 := (rk_or T hT _ hr).2
    have := rkM_go hg l _ h1 (fun q hq => hl q (List.mem_cons_of_mem _ hq))
    refine ⟨this.1, fun r hr2 => ?_⟩
    rw [List.foldl_cons, this.2 r hr2, Nat.testBit_or, Nat.testBit_two_pow]
    simp only [List.any_cons, Bool.or_assoc]
    congr 2
    exact decide_eq_decide.mpr ⟨fun h => h.symm, fun h => h.symm⟩
theorem rkM_ok {a : Nat → Int32} (hg : zG a) {l : List Nat} (hl : ∀ p ∈ l, p < gN a 2) : rkM a l < 64 ∧ ∀ s, s < gN a 2 → ((nI (rkM a l) >>> (a (5 + s) &&& 31)) &&& 1) = nI (if tkn a l s = true then 1 else 0) := by
  obtain ⟨h1, h2⟩ := rkM_go hg l 0 (by decide) hl
  refine ⟨h1, fun s hs => ?_⟩
  have hr := (hg.2.2.2.2.2.1 s hs).1
  rw [hr.1]
  have h3 := rk_bt (rkM a l) h1 _ hr.2
  rw [h3]
  have h4 : (rkM a l).testBit (gN a (5 + s)) = tkn a l s := by
    unfold rkM
    rw [h2 _ hr.2, Nat.zero_testBit, Bool.false_or]
    unfold tkn
    apply Bool.eq_iff_iff.mpr
    simp only [List.any_eq_true, decide_eq_true_eq]
    constructor
    · rintro ⟨p, hp, e⟩
      have hq := (hg.2.2.2.2.2.1 p (hl p hp)).1
      exact ⟨p, hp, by rw [hr.1, hq.1, e]⟩
    · rintro ⟨p, hp, e⟩
      have hq := (hg.2.2.2.2.2.1 p (hl p hp)).1
      rw [hr.1, hq.1] at e
      exact ⟨p, hp, (nI_eq (by omega) (by omega)).mp e⟩
  rw [h4]
/-! the straws that were drawn hold still -/
def zCa (ln dr : Nat → Int32) : Prop := ∀ q, q < 492 → ∀ seed w, seed ≤ 9999999 → 1 ≤ w → w ≤ 16 → dr q = nI (seed * 17 + w) → ln q = nI (lenN seed (q % 12) w)
def encB (b : Option Nat) : Int32 := match b with
  | none => -6
  | some k => nI k
def encL (a : Nat → Int32) (o : Nat) (b : Option Nat) : Int32 := match b with
  | none => 0
  | some k => nI (lenS a k o)
theorem lenN_lt (seed s w : Nat) : lenN seed s w < 2147483648 := lenA_lt _ _
section ZC
variable {h : List zC} {z : Nat × (Nat × (Nat → Int32))} {k : Nat} {a : Nat → Int32} {Q : Option Value → zX → Prop}
theorem zG_w {a : Nat → Int32} (hg : zG a) {s : Nat} (hs : s < gN a 2) : a (17 + s) = nI (gN a (17 + s)) ∧ gN a (17 + s) ≤ 16 ∧ (tp a s = true → 1 ≤ gN a (17 + s)) := by
  obtain ⟨h1, h2⟩ := (hg.2.2.2.2.2.1 s hs).2.1
  refine ⟨h1, h2, fun ht => ?_⟩
  unfold tp at ht
  simp only [Bool.and_eq_true, decide_eq_true_eq] at ht
  have h3 := ht.2
  rw [h1] at h3
  rcases Nat.eq_zero_or_pos (gN a (17 + s)) with h | h
  · rw [h] at h3; exact absurd h3 (by decide)
  · exact h
theorem l_W_draw {r o : Nat} (hg : zG a) (hr : r < 41) (ho : o ≤ 9999) (v6 v7 v8 : Value) : ∀ (j i : Nat) (h : List zC) (ln dr : Nat → Int32) (v6 v7 v8 : Value), i + j = gN a 2 → zSt h 1 a → zSw h ln dr → zCa ln dr → (∀ s, s < i → tp a s = true → ln (r * 12 + s) = nI (lenS a s o)) →
    (∀ (h' : List zC) (ln' dr' : Nat → Int32), zFr (fun j => 78 ≤ j ∧ j ≤ 79) h h' → zSw h' ln' dr' → zCa ln' dr' → (∀ s, s < gN a 2 → tp a s = true → ln' (r * 12 + s) = nI (lenS a s o)) → Q none (h', z)) →
    Ev 24 15 [.ref 77, .ref 1, .int (nI r), .int (nI o), .int (nI (1000 * o + gN a 1)), .int (nI i), v6, v7, v8] [] (h, z) Q := by
  obtain ⟨h2, h12⟩ := hg.2.2.1
  have hsalt := hg.2.1.2
  intro j
  induction j with
  | zero =>
    intro i h ln dr v6 v7 v8 hi hS hW hC hd hQ
    have hi : i = gN a 2 := by omega
    subst hi
    have e1 : a 2 ≤ nI (gN a 2) := by rw [← h2]; exact Int32.le_refl _
    simp only [e24_0, e24_3, e24_4, e24_5, e24_6, e24_9, e24_10, e24_12, e24_13, e24_15, e24_17, e24_18, e24_21, e24_24, e24_25, e24_27, e24_30, e24_33, e24_34, e24_36, e24_37, e24_39, e24_40, e24_42, e24_43, e24_46, e24_48, e24_49, e24_51, e24_53, e24_55, e24_56, e24_58, e24_59, e24_61, e24_62, e24_65, e24_67, e24_68, e24_70, e24_73, e24_74, e24_77, e24_79, e24_81, e24_83, e24_85, e24_88, e24_89, e24_90, e24_93, e24_95, e24_97, e24_98, e24_101, e24_104, zgF, zgA, zgR, zisO, zpush, zopt_some, ↓reduceIte, List.getElem?_cons_succ, List.getElem?_cons_zero, beq_self_eq_true, true_and, and_true, Bool.true_and, Bool.and_true, Bool.false_and, Bool.and_false, nI_1, not_true_eq_false, not_false_eq_true, vp_narI, hS.1, e1]
    exact hQ h ln dr zFr.rf hW hC hd
  | succ j ih =>
    intro i h ln dr v6 v7 v8 hi hS hW hC hd hQ
    have hlt : i < gN a 2 := by omega
    have e1 : ¬ a 2 ≤ nI i := by rw [h2]; exact nI_ge hlt (by omega)
    have e5 : zinb (nI i) (gN a 2) = true := zinb_nI hlt (by omega)
    have e4 : (nI i).toNatClampNeg = i := nI_clamp (by omega)
    have e3 : zinb (nI i) 12 = true := zinb_nI (by omega) (by decide)
    have hT := fun (s : Int32) (Q : Option Value → zX → Prop) => c_S_takesPart (s := s) (Q := Q) (z := z) hS hg
    obtain ⟨fw, hw, ew⟩ := hS.2.2.1
    obtain ⟨w1, w2, w3⟩ := zG_w hg hlt
    rw [e24_15]
    simp only [e24_0, e24_3, e24_4, e24_5, e24_6, e24_9, e24_10, e24_12, e24_13, e24_17, e24_18, e24_21, e24_24, e24_25, e24_27, e24_30, e24_33, e24_34, e24_36, e24_37, e24_39, e24_40, e24_42, e24_43, e24_46, e24_48, e24_49, e24_51, e24_53, e24_55, e24_56, e24_58, e24_59, e24_61, e24_62, e24_65, e24_67, e24_68, e24_70, e24_73, e24_74, e24_77, e24_79, e24_81, e24_83, e24_85, e24_88, e24_89, e24_90, e24_93, e24_95, e24_97, e24_98, e24_101, e24_104, zgF, zgA, zgR, zisO, zpush, zopt_some, ↓reduceIte, List.getElem?_cons_succ, List.getElem?_cons_zero, beq_self_eq_true, true_and, and_true, Bool.true_and, Bool.and_true, Bool.false_and, Bool.and_false, nI_1, not_true_eq_false, not_false_eq_true, vp_narI, hS.1, hT, e1, e4, e5, zb_eq0]
    by_cases h5 : tp a i = true
    · have hw0 := w3 h5
      have e6 : zinb (nI (r * 12 + i)) 492 = true := zinb_nI (by omega) (by decide)
      have e7 : (nI (r * 12 + i)).toNatClampNeg = r * 12 + i := nI_clamp (by omega)
      have e8 : (r * 12 + i) % 12 = i := by omega
      simp only [e24_0, e24_3, e24_4, e24_5, e24_6, e24_9, e24_10, e24_12, e24_13, e24_17, e24_18, e24_21, e24_24, e24_25, e24_27, e24_30, e24_33, e24_34, e24_36, e24_37, e24_39, e24_40, e24_42, e24_43, e24_46, e24_48, e24_49, e24_51, e24_53, e24_55, e24_56, e24_58, e24_59, e24_61, e24_62, e24_65, e24_67, e24_68, e24_70, e24_73, e24_74, e24_77, e24_79, e24_81, e24_83, e24_85, e24_88, e24_89, e24_90, e24_93, e24_95, e24_97, e24_98, e24_101, e24_104, h5, Bool.true_eq_false, hw, hW.1, hW.2.1, hW.2.2, e3, e4, ew i hlt, w1, zc12, zc17, pk_mul, nI_add, e6, e7, zgF, zgA, zgR, zisO, zpush, zopt_some, ↓reduceIte, List.getElem?_cons_succ, List.getElem?_cons_zero, beq_self_eq_true, true_and, and_true, Bool.true_and, Bool.and_true, Bool.false_and, Bool.and_false, nI_1, not_true_eq_false, not_false_eq_true, vp_narI, c_W_longest w2]
      by_cases h6 : dr (r * 12 + i) = nI ((1000 * o + gN a 1) * 17 + gN a (17 + i))
      · simp only [e24_0, e24_3, e24_4, e24_5, e24_6, e24_9, e24_10, e24_12, e24_13, e24_17, e24_18, e24_21, e24_24, e24_25, e24_27, e24_30, e24_33, e24_34, e24_36, e24_37, e24_39, e24_40, e24_42, e24_43, e24_46, e24_48, e24_49, e24_51, e24_53, e24_55, e24_56, e24_58, e24_59, e24_61, e24_62, e24_65, e24_67, e24_68, e24_70, e24_73, e24_74, e24_77, e24_79, e24_81, e24_83, e24_85, e24_88, e24_89, e24_90, e24_93, e24_95, e24_97, e24_98, e24_101, e24_104, h6, zgF, zgA, zgR, zisO, zpush, zopt_some, ↓reduceIte, List.getElem?_cons_succ, List.getElem?_cons_zero, beq_self_eq_true, true_and, and_true, Bool.true_and, Bool.and_true, Bool.false_and, Bool.and_false, nI_1, not_true_eq_false, not_false_eq_true, vp_narI]
        refine ih (i + 1) h ln dr _ _ _ (by omega) hS hW hC (fun s hs ht => ?_) hQ
        by_cases hsi : s = i
        · subst hsi
          have := hC (r * 12 + s) (by omega) _ _ (by omega) hw0 w2 h6
          rw [e8] at this
          exact this
        · exact hd s (by omega) ht
      · simp only [e24_0, e24_3, e24_4, e24_5, e24_6, e24_9, e24_10, e24_12, e24_13, e24_17, e24_18, e24_21, e24_24, e24_25, e24_27, e24_30, e24_33, e24_34, e24_36, e24_37, e24_39, e24_40, e24_42, e24_43, e24_46, e24_48, e24_49, e24_51, e24_53, e24_55, e24_56, e24_58, e24_59, e24_61, e24_62, e24_65, e24_67, e24_68, e24_70, e24_73, e24_74, e24_77, e24_79, e24_81, e24_83, e24_85, e24_88, e24_89, e24_90, e24_93, e24_95, e24_97, e24_98, e24_101, e24_104, h6, zgF, zgA, zgR, zisO, zpush, zopt_some, ↓reduceIte, List.getElem?_cons_succ, List.getElem?_cons_zero, beq_self_eq_true, true_and, and_true, Bool.true_and, Bool.and_true, Bool.false_and, Bool.and_false, nI_1, not_true_eq_false, not_false_eq_true, vp_narI]
        have k0 := zset_ne (k := 78) (c := zar .int 492 (upd ln (r * 12 + i) (nI (lenN (1000 * o + gN a 1) i (gN a (17 + i)))))) hW.1 (by omega)
        have k1 := zset_self (c := zar .int 492 (upd ln (r * 12 + i) (nI (lenN (1000 * o + gN a 1) i (gN a (17 + i)))))) hW.2.1
        have k2 := zset_ne (k := 78) (c := zar .int 492 (upd ln (r * 12 + i) (nI (lenN (1000 * o + gN a 1) i (gN a (17 + i)))))) hW.2.2 (by omega)
        have f1 : zFr (fun j => 78 ≤ j ∧ j ≤ 79) h (h.set 78 (zar .int 492 (upd ln (r * 12 + i) (nI (lenN (1000 * o + gN a 1) i (gN a (17 + i))))))) := zFr.set ⟨by omega, by omega⟩
        generalize h.set 78 (zar .int 492 (upd ln (r * 12 + i) (nI (lenN (1000 * o + gN a 1) i (gN a (17 + i)))))) = g1 at k0 k1 k2 f1 ⊢
        simp only [e24_0, e24_3, e24_4, e24_5, e24_6, e24_9, e24_10, e24_12, e24_13, e24_17, e24_18, e24_21, e24_24, e24_25, e24_27, e24_30, e24_33, e24_34, e24_36, e24_37, e24_39, e24_40, e24_42, e24_43, e24_46, e24_48, e24_49, e24_51, e24_53, e24_55, e24_56, e24_58, e24_59, e24_61, e24_62, e24_65, e24_67, e24_68, e24_70, e24_73, e24_74, e24_77, e24_79, e24_81, e24_83, e24_85, e24_88, e24_89, e24_90, e24_93, e24_95, e24_97, e24_98, e24_101, e24_104, k0, k2, zgF, zgA, zgR, zisO, zpush, zopt_some, ↓reduceIte, List.getElem?_cons_succ, List.getElem?_cons_zero, beq_self_eq_true, true_and, and_true, Bool.true_and, Bool.and_true, Bool.false_and, Bool.and_false, nI_1, not_true_eq_false, not_false_eq_true, vp_narI, e6, e7]
        have f2 : zFr (fun j => 78 ≤ j ∧ j ≤ 79) g1 (g1.set 79 (zar .int 492 (upd dr (r * 12 + i) (nI ((1000 * o + gN a 1) * 17 + gN a (17 + i)))))) := zFr.set ⟨by omega, by omega⟩
        refine ih (i + 1) _ _ _ _ _ _ (by omega) (hS.fr (fun j h1 h2 => (f1.tr f2).2 j (by omega))) ⟨zset_ne k0 (by omega), zset_ne k1 (by omega), zset_self k2⟩ ?_ (fun s hs ht => ?_) (fun h' ln' dr' g => hQ h' ln' dr' ((f1.tr f2).tr g))
        · intro q hq seed w hs1 hw1 hw2 he
          by_cases hqc : q = r * 12 + i
          · subst hqc
            rw [upd_s] at he ⊢
            rw [e8]
            have he := (nI_eq (by omega) (by omega)).mp he
            have h7 : seed = 1000 * o + gN a 1 := by omega
            have h8 : w = gN a (17 + i) := by omega
            rw [h7, h8]
          · rw [upd_n hqc] at he ⊢
            exact hC q hq seed w hs1 hw1 hw2 he
        · by_cases hsi : s = i
          · subst hsi
            rw [upd_s]
            rfl
          · rw [upd_n (by omega)]
            exact hd s (by omega) ht
    · have h5 : tp a i = false := by simpa using h5
      simp only [e24_0, e24_3, e24_4, e24_5, e24_6, e24_9, e24_10, e24_12, e24_13, e24_17, e24_18, e24_21, e24_24, e24_25, e24_27, e24_30, e24_33, e24_34, e24_36, e24_37, e24_39, e24_40, e24_42, e24_43, e24_46, e24_48, e24_49, e24_51, e24_53, e24_55, e24_56, e24_58, e24_59, e24_61, e24_62, e24_65, e24_67, e24_68, e24_70, e24_73, e24_74, e24_77, e24_79, e24_81, e24_83, e24_85, e24_88, e24_89, e24_90, e24_93, e24_95, e24_97, e24_98, e24_101, e24_104, h5, zgF, zgA, zgR, zisO, zpush, zopt_some, ↓reduceIte, List.getElem?_cons_succ, List.getElem?_cons_zero, beq_self_eq_true, true_and, and_true, Bool.true_and, Bool.and_true, Bool.false_and, Bool.and_false, nI_1, not_true_eq_false, not_false_eq_true, vp_narI]
      refine ih (i + 1) h ln dr _ _ _ (by omega) hS hW hC (fun s hs ht => ?_) hQ
      by_cases hsi : s = i
      · subst hsi; rw [h5] at ht; cases ht
      · exact hd s (by omega) ht
theorem c_W_draw {r o : Nat} {ln dr : Nat → Int32} (hg : zG a) (hr : r < 41) (ho : o ≤ 9999) (hS : zSt h 1 a) (hW : zSw h ln dr) (hC : zCa ln dr)
    (hQ : ∀ (h' : List zC) (ln' dr' : Nat → Int32), zFr (fun j => 78 ≤ j ∧ j ≤ 79) h h' → zSw h' ln' dr' → zCa ln' dr' → (∀ s, s < gN a 2 → tp a s = true → ln' (r * 12 + s) = nI (lenS a s o)) → Q none (h', z)) :
    Ev 24 0 [.ref 77, .ref 1, .int (nI r), .int (nI o), zU, zU, zU, zU, zU] [] (h, z) Q := by
  have := l_W_draw (Q := Q) (z := z) (a := a) hg hr ho zU zU zU (gN a 2) 0 h ln dr zU zU zU (by omega) hS hW hC (fun s hs => absurd hs (by omega)) hQ
  have e1 := hg.2.1.1
  simp only [e24_0, e24_3, e24_4, e24_5, e24_6, e24_9, e24_10, e24_12, e24_13, e24_17, e24_18, e24_21, e24_24, e24_25, e24_27, e24_30, e24_33, e24_34, e24_36, e24_37, e24_39, e24_40, e24_42, e24_43, e24_46, e24_48, e24_49, e24_51, e24_53, e24_55, e24_56, e24_58, e24_59, e24_61, e24_62, e24_65, e24_67, e24_68, e24_70, e24_73, e24_74, e24_77, e24_79, e24_81, e24_83, e24_85, e24_88, e24_89, e24_90, e24_93, e24_95, e24_97, e24_98, e24_101, e24_104, zgF, zgA, zgR, zisO, zpush, zopt_some, ↓reduceIte, List.getElem?_cons_succ, List.getElem?_cons_zero, beq_self_eq_true, true_and, and_true, Bool.true_and, Bool.and_true, Bool.false_and, Bool.and_false, nI_1, not_true_eq_false, not_false_eq_true, vp_narI, hS.1, zc1000, pk_mul]
  rw [e1, nI_add]
  exact this
theorem l_W_highest {r o : Nat} {l : List Nat} {ln dr : Nat → Int32} (hg : zG a) (hr : r < 41) (hS : zSt h 1 a) (hW : zSw h ln dr) (hl : ∀ p ∈ l, p < gN a 2) (hd : ∀ s, s < gN a 2 → tp a s = true → ln (r * 12 + s) = nI (lenS a s o)) : ∀ (j i : Nat) (v7 : Value), i + j = gN a 2 →
    Ev 26 10 [.ref 77, .ref 1, .int (nI r), .int (nI (rkM a l)), .int (encB (bst a o l i)), .int (encL a o (bst a o l i)), .int (nI i), v7] [] (h, z) Q = Q (some (.int (encB (bst a o l (gN a 2))))) (h, z) := by
  obtain ⟨h2, h12⟩ := hg.2.2.1
  obtain ⟨fr, hfr, er⟩ := hS.2.1
  intro j
  induction j with
  | zero =>
    intro i v7 hi
    have hi : i = gN a 2 := by omega
    subst hi
    have e1 : a 2 ≤ nI (gN a 2) := by rw [← h2]; exact Int32.le_refl _
    simp only [e26_0, e26_2, e26_4, e26_5, e26_7, e26_8, e26_10, e26_12, e26_13, e26_16, e26_19, e26_20, e26_22, e26_25, e26_28, e26_29, e26_30, e26_33, e26_35, e26_36, e26_37, e26_38, e26_39, e26_42, e26_43, e26_46, e26_47, e26_49, e26_50, e26_52, e26_53, e26_54, e26_56, e26_58, e26_60, e26_63, e26_65, e26_67, e26_70, e26_72, e26_74, e26_76, e26_78, e26_81, e26_84, e26_86, zgF, zgA, zgR, zisO, zpush, zopt_some, ↓reduceIte, List.getElem?_cons_succ, List.getElem?_cons_zero, beq_self_eq_true, true_and, and_true, Bool.true_and, Bool.and_true, Bool.false_and, Bool.and_false, nI_1, not_true_eq_false, not_false_eq_true, vp_narI, hS.1, e1]
  | succ j ih =>
    intro i v7 hi
    have hlt : i < gN a 2 := by omega
    have e1 : ¬ a 2 ≤ nI i := by rw [h2]; exact nI_ge hlt (by omega)
    have e5 : zinb (nI i) (gN a 2) = true := zinb_nI hlt (by omega)
    have e4 : (nI i).toNatClampNeg = i := nI_clamp (by omega)
    have e3 : zinb (nI i) 12 = true := zinb_nI (by omega) (by decide)
    have e6 : zinb (nI (r * 12 + i)) 492 = true := zinb_nI (by omega) (by decide)
    have e7 : (nI (r * 12 + i)).toNatClampNeg = r * 12 + i := nI_clamp (by omega)
    have hT := fun (s : Int32) (Q : Option Value → zX → Prop) => c_S_takesPart (s := s) (Q := Q) (z := z) hS hg
    have hm := (rkM_ok hg hl).2 i hlt
    have ih' := fun v => ih (i + 1) v (by omega)
    rw [e26_10]
    simp only [e26_0, e26_2, e26_4, e26_5, e26_7, e26_8, e26_12, e26_13, e26_16, e26_19, e26_20, e26_22, e26_25, e26_28, e26_29, e26_30, e26_33, e26_35, e26_36, e26_37, e26_38, e26_39, e26_42, e26_43, e26_46, e26_47, e26_49, e26_50, e26_52, e26_53, e26_54, e26_56, e26_58, e26_60, e26_63, e26_65, e26_67, e26_70, e26_72, e26_74, e26_76, e26_78, e26_81, e26_84, e26_86, zgF, zgA, zgR, zisO, zpush, zopt_some, ↓reduceIte, List.getElem?_cons_succ, List.getElem?_cons_zero, beq_self_eq_true, true_and, and_true, Bool.true_and, Bool.and_true, Bool.false_and, Bool.and_false, nI_1, not_true_eq_false, not_false_eq_true, vp_narI, hS.1, hT, e1, e4, e5, zb_eq0]
    by_cases h5 : tp a i = true
    · simp only [e26_0, e26_2, e26_4, e26_5, e26_7, e26_8, e26_12, e26_13, e26_16, e26_19, e26_20, e26_22, e26_25, e26_28, e26_29, e26_30, e26_33, e26_35, e26_36, e26_37, e26_38, e26_39, e26_42, e26_43, e26_46, e26_47, e26_49, e26_50, e26_52, e26_53, e26_54, e26_56, e26_58, e26_60, e26_63, e26_65, e26_67, e26_70, e26_72, e26_74, e26_76, e26_78, e26_81, e26_84, e26_86, h5, Bool.true_eq_false, hfr, e3, e4, er i hlt, hm, zgF, zgA, zgR, zisO, zpush, zopt_some, ↓reduceIte, List.getElem?_cons_succ, List.getElem?_cons_zero, beq_self_eq_true, true_and, and_true, Bool.true_and, Bool.and_true, Bool.false_and, Bool.and_false, nI_1, not_true_eq_false, not_false_eq_true, vp_narI]
      by_cases h6 : tkn a l i = true
      · have hcn : cnd a l i = false := by unfold cnd; simp [h6]
        have hb : bst a o l (i + 1) = bst a o l i := by rw [bst, hcn]; rfl
        rw [hb] at ih'
        have e8 : ¬ nI (if tkn a l i = true then 1 else 0) = 0 := by rw [h6]; decide
        simp only [e26_0, e26_2, e26_4, e26_5, e26_7, e26_8, e26_12, e26_13, e26_16, e26_19, e26_20, e26_22, e26_25, e26_28, e26_29, e26_30, e26_33, e26_35, e26_36, e26_37, e26_38, e26_39, e26_42, e26_43, e26_46, e26_47, e26_49, e26_50, e26_52, e26_53, e26_54, e26_56, e26_58, e26_60, e26_63, e26_65, e26_67, e26_70, e26_72, e26_74, e26_76, e26_78, e26_81, e26_84, e26_86, e8, zgF, zgA, zgR, zisO, zpush, zopt_some, ↓reduceIte, List.getElem?_cons_succ, List.getElem?_cons_zero, beq_self_eq_true, true_and, and_true, Bool.true_and, Bool.and_true, Bool.false_and, Bool.and_false, nI_1, not_true_eq_false, not_false_eq_true, vp_narI]
        exact ih' _
      · have h6 : tkn a l i = false := by simpa using h6
        have hcn : cnd a l i = true := by unfold cnd; simp [h5, h6]
        have e8 : nI (if tkn a l i = true then 1 else 0) = 0 := by rw [h6]; decide
        simp only [e26_0, e26_2, e26_4, e26_5, e26_7, e26_8, e26_12, e26_13, e26_16, e26_19, e26_20, e26_22, e26_25, e26_28, e26_29, e26_30, e26_33, e26_35, e26_36, e26_37, e26_38, e26_39, e26_42, e26_43, e26_46, e26_47, e26_49, e26_50, e26_52, e26_53, e26_54, e26_56, e26_58, e26_60, e26_63, e26_65, e26_67, e26_70, e26_72, e26_74, e26_76, e26_78, e26_81, e26_84, e26_86, e8, zgF, zgA, zgR, zisO, zpush, zopt_some, ↓reduceIte, List.getElem?_cons_succ, List.getElem?_cons_zero, beq_self_eq_true, true_and, and_true, Bool.true_and, Bool.and_true, Bool.false_and, Bool.and_false, nI_1, not_true_eq_false, not_false_eq_true, vp_narI, hW.1, hW.2.1, zc12, pk_mul, nI_add, e6, e7, hd i hlt h5]
        have l1 : lenS a i o < 2147483648 := lenN_lt _ _ _
        cases hbi : bst a o l i with
        | none =>
          have hb : bst a o l (i + 1) = some i := by rw [bst, if_pos hcn, hbi]
          rw [hb] at ih'
          simp only [e26_0, e26_2, e26_4, e26_5, e26_7, e26_8, e26_12, e26_13, e26_16, e26_19, e26_20, e26_22, e26_25, e26_28, e26_29, e26_30, e26_33, e26_35, e26_36, e26_37, e26_38, e26_39, e26_42, e26_43, e26_46, e26_47, e26_49, e26_50, e26_52, e26_53, e26_54, e26_56, e26_58, e26_60, e26_63, e26_65, e26_67, e26_70, e26_72, e26_74, e26_76, e26_78, e26_81, e26_84, e26_86, encB, encL, zgF, zgA, zgR, zisO, zpush, zopt_some, ↓reduceIte, List.getElem?_cons_succ, List.getElem?_cons_zero, beq_self_eq_true, true_and, and_true, Bool.true_and, Bool.and_true, Bool.false_and, Bool.and_false, nI_1, not_true_eq_false, not_false_eq_true, vp_narI]
          exact ih' _
        | some b =>
          have hb0 := (bst_lt a o l i b hbi).1
          have e9 : ¬ nI b = -6 := fun q => absurd (congrArg Int32.toInt q) (by rw [nI_toInt (by omega)]; show ¬ (b : Int) = -6; omega)
          have l2 : lenS a b o < 2147483648 := lenN_lt _ _ _
          simp only [e26_0, e26_2, e26_4, e26_5, e26_7, e26_8, e26_12, e26_13, e26_16, e26_19, e26_20, e26_22, e26_25, e26_28, e26_29, e26_30, e26_33, e26_35, e26_36, e26_37, e26_38, e26_39, e26_42, e26_43, e26_46, e26_47, e26_49, e26_50, e26_52, e26_53, e26_54, e26_56, e26_58, e26_60, e26_63, e26_65, e26_67, e26_70, e26_72, e26_74, e26_76, e26_78, e26_81, e26_84, e26_86, encB, encL, e9, zgF, zgA, zgR, zisO, zpush, zopt_some, ↓reduceIte, List.getElem?_cons_succ, List.getElem?_cons_zero, beq_self_eq_true, true_and, and_true, Bool.true_and, Bool.and_true, Bool.false_and, Bool.and_false, nI_1, not_true_eq_false, not_false_eq_true, vp_narI]
          by_cases h7 : lenS a b o < lenS a i o
          · have hb : bst a o l (i + 1) = some i := by rw [bst, if_pos hcn, hbi]; exact if_pos h7
            rw [hb] at ih'
            have e10 : ¬ nI (lenS a i o) ≤ nI (lenS a b o) := nI_ge h7 l1
            simp only [e26_0, e26_2, e26_4, e26_5, e26_7, e26_8, e26_12, e26_13, e26_16, e26_19, e26_20, e26_22, e26_25, e26_28, e26_29, e26_30, e26_33, e26_35, e26_36, e26_37, e26_38, e26_39, e26_42, e26_43, e26_46, e26_47, e26_49, e26_50, e26_52, e26_53, e26_54, e26_56, e26_58, e26_60, e26_63, e26_65, e26_67, e26_70, e26_72, e26_74, e26_76, e26_78, e26_81, e26_84, e26_86, e10, zgF, zgA, zgR, zisO, zpush, zopt_some, ↓reduceIte, List.getElem?_cons_succ, List.getElem?_cons_zero, beq_self_eq_true, true_and, and_true, Bool.true_and, Bool.and_true, Bool.false_and, Bool.and_false, nI_1, not_true_eq_false, not_false_eq_true, vp_narI]
            exact ih' _
          · have hb : bst a o l (i + 1) = some b := by rw [bst, if_pos hcn, hbi]; exact if_neg h7
            rw [hb] at ih'
            have e10 : nI (lenS a i o) ≤ nI (lenS a b o) := nI_le (by omega) l2
            simp only [e26_0, e26_2, e26_4, e26_5, e26_7, e26_8, e26_12, e26_13, e26_16, e26_19, e26_20, e26_22, e26_25, e26_28, e26_29, e26_30, e26_33, e26_35, e26_36, e26_37, e26_38, e26_39, e26_42, e26_43, e26_46, e26_47, e26_49, e26_50, e26_52, e26_53, e26_54, e26_56, e26_58, e26_60, e26_63, e26_65, e26_67, e26_70, e26_72, e26_74, e26_76, e26_78, e26_81, e26_84, e26_86, e10, zgF, zgA, zgR, zisO, zpush, zopt_some, ↓reduceIte, List.getElem?_cons_succ, List.getElem?_cons_zero, beq_self_eq_true, true_and, and_true, Bool.true_and, Bool.and_true, Bool.false_and, Bool.and_false, nI_1, not_true_eq_false, not_false_eq_true, vp_narI]
            exact ih' _
    · have h5 : tp a i = false := by simpa using h5
      have hcn : cnd a l i = false := by unfold cnd; simp [h5]
      have hb : bst a o l (i + 1) = bst a o l i := by rw [bst, hcn]; rfl
      rw [hb] at ih'
      simp only [e26_0, e26_2, e26_4, e26_5, e26_7, e26_8, e26_12, e26_13, e26_16, e26_19, e26_20, e26_22, e26_25, e26_28, e26_29, e26_30, e26_33, e26_35, e26_36, e26_37, e26_38, e26_39, e26_42, e26_43, e26_46, e26_47, e26_49, e26_50, e26_52, e26_53, e26_54, e26_56, e26_58, e26_60, e26_63, e26_65, e26_67, e26_70, e26_72, e26_74, e26_76, e26_78, e26_81, e26_84, e26_86, h5, zgF, zgA, zgR, zisO, zpush, zopt_some, ↓reduceIte, List.getElem?_cons_succ, List.getElem?_cons_zero, beq_self_eq_true, true_and, and_true, Bool.true_and, Bool.and_true, Bool.false_and, Bool.and_false, nI_1, not_true_eq_false, not_false_eq_true, vp_narI]
      exact ih' _
theorem c_W_highest {r o : Nat} {l : List Nat} {ln dr : Nat → Int32} (hg : zG a) (hr : r < 41) (hS : zSt h 1 a) (hW : zSw h ln dr) (hl : ∀ p ∈ l, p < gN a 2) (hd : ∀ s, s < gN a 2 → tp a s = true → ln (r * 12 + s) = nI (lenS a s o)) :
    Ev 26 0 [.ref 77, .ref 1, .int (nI r), .int (nI (rkM a l)), zU, zU, zU, zU] [] (h, z) Q = Q (some (.int (encB (bst a o l (gN a 2))))) (h, z) := by
  refine Eq.trans ?_ (l_W_highest hg hr hS hW hl hd (gN a 2) 0 zU (by omega))
  simp only [e26_0, e26_2, e26_4, e26_5, e26_7, e26_8, e26_12, e26_13, e26_16, e26_19, e26_20, e26_22, e26_25, e26_28, e26_29, e26_30, e26_33, e26_35, e26_36, e26_37, e26_38, e26_39, e26_42, e26_43, e26_46, e26_47, e26_49, e26_50, e26_52, e26_53, e26_54, e26_56, e26_58, e26_60, e26_63, e26_65, e26_67, e26_70, e26_72, e26_74, e26_76, e26_78, e26_81, e26_84, e26_86]
  rfl
end ZC
end
