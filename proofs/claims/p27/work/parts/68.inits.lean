/-! constructors: what they leave -/
section
set_option maxRecDepth 100000
theorem fits_c : ∀ c, c < 127 → zfits .char (.int (nI c)) = true := by decide +kernel
theorem ap_at {h0 t : List zC} {k i : Nat} (hk : h0.length = k) : (h0 ++ t)[k + i]? = t[i]? := by
  subst hk
  rw [List.getElem?_append_right (by omega), Nat.add_sub_cancel_left]
theorem ap_at0 {h0 t : List zC} {k : Nat} (hk : h0.length = k) : (h0 ++ t)[k]? = t[0]? := ap_at (i := 0) hk
theorem ap_set {h0 t : List zC} {k i : Nat} {c : zC} (hk : h0.length = k) : (h0 ++ t).set (k + i) c = h0 ++ t.set i c := by
  subst hk
  rw [List.set_append_right _ _ (by omega), Nat.add_sub_cancel_left]
theorem zpF_a {h0 t : List zC} {c f : Nat} {fs : List Value} {v : Value} {P : List zC → Prop} : zopt (zpF (h0 ++ (zob c fs :: t)) h0.length c f v) P = if f < fs.length then P (h0 ++ (zob c (fs.set f v) :: t)) else False := by
  unfold zpF
  have e := ap_at (h0 := h0) (t := zob c fs :: t) (i := 0) rfl
  have e2 := fun c' => ap_set (h0 := h0) (t := zob c fs :: t) (i := 0) (c := c') rfl
  rw [Nat.add_zero] at e e2
  rw [e]
  simp only [List.getElem?_cons_zero, true_and]
  split
  · rw [e2]; rfl
  · rfl
theorem zgF_a {h0 t : List zC} {c f : Nat} {fs : List Value} {P : Value → Prop} : zopt (zgF (h0 ++ (zob c fs :: t)) h0.length c f) P = zopt fs[f]? P := by
  unfold zgF
  have e := ap_at (h0 := h0) (t := zob c fs :: t) (i := 0) rfl
  rw [Nat.add_zero] at e
  rw [e]
  simp only [List.getElem?_cons_zero, ↓reduceIte]
def stL (k : Nat) : List zC := [zob 3 [.int 2, .int 0, .int 0, .ref (k + 1), .ref (k + 2), .ref (k + 3), .int 0, .ref (k + 4), .ref (k + 5), .int 0, .ref (k + 6), .ref (k + 7), .ref (k + 8)], zar .int 12 (fun _ => 0), zar .int 12 (fun _ => 0), zar .boolean 12 (fun _ => 0), zar .int 40 (fun _ => 0), zar .int 40 (fun _ => 0), zar .int 120 (fun _ => 0), zar .int 120 (fun _ => 0), zar .int 120 (fun _ => 0)]
def lyL (k : Nat) : List zC := [zob 1 [.ref (k + 1), .ref (k + 2), .ref (k + 3), .int 0], zar .int 41 (fun _ => 0), zar .int 123 (fun _ => 0), zar .int 12 (fun _ => 0)]
def pdL (k : Nat) : List zC := [zob 2 [.ref (k + 1), .int 0, .int 0, .int 32, .int 0, .int 0], zar .char 60 (fun _ => 0)]
def swL (k : Nat) : List zC := [zob 4 [.ref (k + 1), .ref (k + 2)], zar .int 492 (fun _ => 0), zar .int 492 (fun _ => 0)]
section ZC
variable {h0 : List zC} {z : Nat × (Nat × (Nat → Int32))} {Q : Option Value → zX → Prop}
theorem c_S_init : Ev 12 0 [.ref h0.length] [] (h0 ++ [zob 3 [.int 0, .int 0, .int 0, .null, .null, .null, .int 0, .null, .null, .int 0, .null, .null, .null]], z) Q = Q none (h0 ++ stL h0.length, (z.1 + 476, z.2)) := by
  simp only [e12_0, e12_1, e12_4, e12_5, e12_6, e12_9, e12_10, e12_11, e12_14, e12_15, e12_16, e12_19, e12_20, e12_24, e12_27, e12_28, e12_32, e12_35, e12_36, e12_40, e12_43, e12_44, e12_45, e12_48, e12_49, e12_53, e12_56, e12_57, e12_61, e12_64, e12_65, e12_66, e12_69, e12_70, e12_74, e12_77, e12_78, e12_82, e12_85, e12_86, e12_90, e12_93, e12_22, e12_30, e12_38, e12_51, e12_59, e12_72, e12_80, e12_88, zpF_a, List.append_assoc, List.cons_append, List.nil_append, List.length_append, List.length_cons, List.length_nil, Nat.reduceAdd, Nat.reduceLT, List.set_cons_succ, List.set_cons_zero, Nat.add_assoc, ↓reduceIte]
  rfl
theorem c_Y_init : Ev 4 0 [.ref h0.length] [] (h0 ++ [zob 1 [.null, .null, .null, .int 0]], z) Q = Q none (h0 ++ lyL h0.length, (z.1 + 176, z.2)) := by
  simp only [e4_0, e4_1, e4_4, e4_5, e4_9, e4_12, e4_13, e4_17, e4_20, e4_21, e4_25, e4_28, e4_29, e4_30, e4_33, e4_7, e4_15, e4_23, zpF_a, List.append_assoc, List.cons_append, List.nil_append, List.length_append, List.length_cons, List.length_nil, Nat.reduceAdd, Nat.reduceLT, List.set_cons_succ, List.set_cons_zero, Nat.add_assoc, ↓reduceIte]
  rfl
theorem c_P_init : Ev 11 0 [.ref h0.length] [] (h0 ++ [zob 2 [.null, .int 0, .int 0, .int 0, .int 0, .int 0]], z) Q = Q none (h0 ++ pdL h0.length, (z.1 + 60, z.2)) := by
  simp only [e11_0, e11_1, e11_4, e11_5, e11_9, e11_12, e11_13, e11_14, e11_17, e11_18, e11_19, e11_22, e11_23, e11_28, e11_29, e11_30, e11_33, e11_34, e11_35, e11_38, e11_7, e11_25 (s0 := 32) (fits_c 32 (by decide)), zpF_a, List.append_assoc, List.cons_append, List.nil_append, List.length_append, List.length_cons, List.length_nil, Nat.reduceAdd, Nat.reduceLT, List.set_cons_succ, List.set_cons_zero, Nat.add_assoc, ↓reduceIte]
  rfl
theorem c_W_init : Ev 23 0 [.ref h0.length] [] (h0 ++ [zob 4 [.null, .null]], z) Q = Q none (h0 ++ swL h0.length, (z.1 + 984, z.2)) := by
  simp only [e23_0, e23_1, e23_4, e23_5, e23_10, e23_13, e23_14, e23_19, e23_22, e23_8, e23_17, zpF_a, List.append_assoc, List.cons_append, List.nil_append, List.length_append, List.length_cons, List.length_nil, Nat.reduceAdd, Nat.reduceLT, List.set_cons_succ, List.set_cons_zero, Nat.add_assoc, ↓reduceIte]
  rfl
def rfS (b : Nat) : Nat → Nat → Option Nat
  | 0 => fun _ => none
  | i + 1 => va_up (rfS b i) i (some (b + 9 * i))
def sts (b : Nat) : Nat → List zC
  | 0 => []
  | i + 1 => sts b i ++ stL (b + 9 * i)
theorem sts_len (b : Nat) : ∀ i, (sts b i).length = 9 * i
  | 0 => rfl
  | i + 1 => by
    show (sts b i ++ stL (b + 9 * i)).length = _
    rw [List.length_append, sts_len b i]
    show 9 * i + 9 = _
    omega
def hiH (h0 : List zC) (i : Nat) : List zC := h0 ++ (zob 0 [.ref (h0.length + 1), .int 0, .int 0] :: zrr 7 (rfS (h0.length + 2) i) :: sts (h0.length + 2) i)
theorem hiH_len (i : Nat) : (hiH h0 i).length = h0.length + 2 + 9 * i := by
  unfold hiH
  rw [List.length_append, List.length_cons, List.length_cons, sts_len]
  omega
theorem l_H_init {c : Nat} {w : Nat × (Nat → Int32)} : ∀ (j i c : Nat), i + j = 7 → Ev 0 25 [.ref h0.length, .int (nI i)] [] (hiH h0 i, (c, w)) Q = Q none (hiH h0 7, (c + 489 * j, w)) := by
  intro j
  induction j with
  | zero =>
    intro i c hi
    have hi : i = 7 := by omega
    subst hi
    have e1 : (7 : Int32) ≤ nI 7 := by decide
    rw [e0_25]
    simp only [e0_0, e0_1, e0_4, e0_5, e0_10, e0_13, e0_14, e0_15, e0_18, e0_19, e0_20, e0_23, e0_24, e0_26, e0_28, e0_31, e0_32, e0_35, e0_39, e0_44, e0_47, e0_50, e0_7, e1, ↓reduceIte, Nat.mul_zero, Nat.add_zero]
  | succ j ih =>
    intro i c hi
    have e1 : ¬ (7 : Int32) ≤ nI i := nI_ge (b := 7) (by omega) (by omega)
    have e2 : (nI i).toNatClampNeg = i := nI_clamp (by omega)
    have eg : ∀ P, zopt (zgF (hiH h0 i) h0.length 0 0) P = P (.ref (h0.length + 1)) := fun P => zgF_a
    rw [e0_25]
    simp only [e0_0, e0_1, e0_4, e0_5, e0_10, e0_13, e0_14, e0_15, e0_18, e0_19, e0_20, e0_23, e0_24, e0_26, e0_28, e0_31, e0_32, e0_35, e0_39, e0_44, e0_47, e0_50, e0_7, e1, ↓reduceIte, eg]
    rw [e0_36]
    dsimp only
    rw [e0_39, e0_40, c_S_init]
    simp only [zisO_last, true_and, zpush]
    have el : (hiH h0 i).length = h0.length + 2 + 9 * i := hiH_len i
    rw [el]
    have eh : hiH h0 i ++ stL (h0.length + 2 + 9 * i) = h0 ++ (zob 0 [.ref (h0.length + 1), .int 0, .int 0] :: zrr 7 (rfS (h0.length + 2) i) :: (sts (h0.length + 2) i ++ stL (h0.length + 2 + 9 * i))) := by
      unfold hiH
      rw [List.append_assoc, List.cons_append, List.cons_append]
    have hq : zgR (hiH h0 i ++ stL (h0.length + 2 + 9 * i)) (h0.length + 1) = some (7, rfS (h0.length + 2) i) := by
      rw [eh, zgR, ap_at rfl]; rfl
    have hr : zisO (hiH h0 i ++ stL (h0.length + 2 + 9 * i)) (h0.length + 2 + 9 * i) 3 = true := by
      rw [zisO, ap_at0 el]; rfl
    rw [e0_43 hq (show zinb (nI i) 7 = true from zinb_nI (by omega) (by decide)) hr, e2]
    have es : (hiH h0 i ++ stL (h0.length + 2 + 9 * i)).set (h0.length + 1) (zrr 7 (va_up (rfS (h0.length + 2) i) i (some (h0.length + 2 + 9 * i)))) = hiH h0 (i + 1) := by
      rw [eh, ap_set rfl]
      rfl
    dsimp only
    rw [es, e0_44, e0_47, nI_1, ih (i + 1) _ (by omega), show c + 13 + 476 + 489 * j = c + 489 * (j + 1) by omega]
theorem c_H_init : Ev 0 0 [.ref h0.length, zU] [] (h0 ++ [zob 0 [.null, .int 0, .int 0]], z) Q = Q none (hiH h0 7, (z.1 + 7 + 489 * 7, z.2)) := by
  refine Eq.trans ?_ (l_H_init (h0 := h0) (c := 0) 7 0 (z.1 + 7) rfl)
  simp only [e0_0, e0_1, e0_4, e0_5, e0_10, e0_13, e0_14, e0_15, e0_18, e0_19, e0_20, e0_23, e0_24, e0_26, e0_28, e0_31, e0_32, e0_35, e0_39, e0_44, e0_47, e0_50, e0_7, e0_36, zpF_a, List.append_assoc, List.cons_append, List.nil_append, List.length_append, List.length_cons, List.length_nil, Nat.reduceAdd, Nat.reduceLT, List.set_cons_succ, List.set_cons_zero, Nat.add_assoc, ↓reduceIte]
  rfl
end ZC
end
