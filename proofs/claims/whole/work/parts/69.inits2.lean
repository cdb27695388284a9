/-! both constructors -/
section
set_option maxRecDepth 100000
def hiL (k : Nat) : List zC := zob 0 [.ref (k + 1), .int 0, .int 0] :: zrr 7 (rfS (k + 2) 7) :: sts (k + 2) 7
theorem stL_len (k : Nat) : (stL k).length = 9 := rfl
theorem lyL_len (k : Nat) : (lyL k).length = 4 := rfl
theorem pdL_len (k : Nat) : (pdL k).length = 2 := rfl
theorem swL_len (k : Nat) : (swL k).length = 3 := rfl
theorem hiL_len (k : Nat) : (hiL k).length = 65 := by
  unfold hiL
  rw [List.length_cons, List.length_cons, sts_len]
theorem zpF_0 {t : List zC} {c f : Nat} {fs : List Value} {v : Value} {P : List zC → Prop} : zopt (zpF (zob c fs :: t) 0 c f v) P = if f < fs.length then P (zob c (fs.set f v) :: t) else False := zpF_a (h0 := [])
theorem zgF_0 {t : List zC} {c f : Nat} {fs : List Value} {P : Value → Prop} : zopt (zgF (zob c fs :: t) 0 c f) P = zopt fs[f]? P := zgF_a (h0 := [])
section ZC
variable {h : List zC} {z : Nat × (Nat × (Nat → Int32))} {Q : Option Value → zX → Prop}
theorem n_D_5 {l0 s0 : Nat} {l1 : Value} : Ev 39 5 [.ref l0, l1] [.ref s0] (h, z) Q = Ev 39 12 [.ref l0, l1] [.ref h.length, .ref s0] (h ++ stL h.length, (z.1 + 489, z.2)) Q := by
  rw [e39_5]; dsimp only; rw [e39_8, e39_9, c_S_init]; simp only [zisO_last, true_and, zpush, Nat.add_assoc, Nat.reduceAdd]
theorem n_D_16 {l0 s0 : Nat} {l1 : Value} : Ev 39 16 [.ref l0, l1] [.ref s0] (h, z) Q = Ev 39 23 [.ref l0, l1] [.ref h.length, .ref s0] (h ++ hiL h.length, (z.1 + 3433, z.2)) Q := by
  rw [e39_16]; dsimp only; rw [e39_19, e39_20, c_H_init]; simp only [zisO_last, true_and, zpush, Nat.add_assoc, Nat.reduceAdd, Nat.reduceMul]; rfl
theorem n_D_42 {l0 s0 : Nat} {l1 : Value} : Ev 39 42 [.ref l0, l1] [.ref s0] (h, z) Q = Ev 39 49 [.ref l0, l1] [.ref h.length, .ref s0] (h ++ swL h.length, (z.1 + 986, z.2)) Q := by
  rw [e39_42]; dsimp only; rw [e39_45, e39_46, c_W_init]; simp only [zisO_last, true_and, zpush, Nat.add_assoc, Nat.reduceAdd]
theorem n_D_53 {l0 s0 : Nat} {l1 : Value} : Ev 39 53 [.ref l0, l1] [.ref s0] (h, z) Q = Ev 39 60 [.ref l0, l1] [.ref h.length, .ref s0] (h ++ pdL h.length, (z.1 + 66, z.2)) Q := by
  rw [e39_53]; dsimp only; rw [e39_56, e39_57, c_P_init]; simp only [zisO_last, true_and, zpush, Nat.add_assoc, Nat.reduceAdd]
theorem n_D_64 {l0 s0 : Nat} {l1 : Value} : Ev 39 64 [.ref l0, l1] [.ref s0] (h, z) Q = Ev 39 71 [.ref l0, l1] [.ref h.length, .ref s0] (h ++ lyL h.length, (z.1 + 180, z.2)) Q := by
  rw [e39_64]; dsimp only; rw [e39_67, e39_68, c_Y_init]; simp only [zisO_last, true_and, zpush, Nat.add_assoc, Nat.reduceAdd]
theorem n_D_75 {l0 s0 : Nat} {l1 : Value} : Ev 39 75 [.ref l0, l1] [.ref s0] (h, z) Q = Ev 39 82 [.ref l0, l1] [.ref h.length, .ref s0] (h ++ lyL h.length, (z.1 + 180, z.2)) Q := by
  rw [e39_75]; dsimp only; rw [e39_78, e39_79, c_Y_init]; simp only [zisO_last, true_and, zpush, Nat.add_assoc, Nat.reduceAdd]
theorem n_D_97 {l0 s1 : Nat} {l1 s0 : Int32} : Ev 39 97 [.ref l0, .int l1] [.int s0, .ref s1] (h, z) Q = Ev 39 104 [.ref l0, .int l1] [.ref h.length, .int s0, .ref s1] (h ++ stL h.length, (z.1 + 489, z.2)) Q := by
  rw [e39_97]; dsimp only; rw [e39_100, e39_101, c_S_init]; simp only [zisO_last, true_and, zpush, Nat.add_assoc, Nat.reduceAdd]
def dH (i : Nat) : List zC := zob 5 [.ref 1, .ref 10, .ref 75, .ref 76, .ref 77, .ref 80, .ref 82, .ref 86] :: (stL 1 ++ (hiL 10 ++ (zrr 2 (rfS 90 i) :: zar .boolean 2 (fun _ => 0) :: (swL 77 ++ (pdL 80 ++ (lyL 82 ++ (lyL 86 ++ sts 90 i)))))))
theorem dH_len (i : Nat) : (dH i).length = 90 + 9 * i := by
  unfold dH
  simp only [List.length_cons, List.length_append, stL_len, hiL_len, swL_len, pdL_len, lyL_len, sts_len]
  omega
theorem d_D_0 : Ev 39 0 [.ref 0, zU] [] ([zob 5 [.null, .null, .null, .null, .null, .null, .null, .null]], z) Q = Ev 39 87 [.ref 0, .int 0] [] (dH 0, (z.1 + 5338, z.2)) Q := by
  simp only [e39_0, e39_1, e39_4, e39_8, e39_12, e39_15, e39_19, e39_23, e39_26, e39_27, e39_31, e39_34, e39_35, e39_38, e39_41, e39_45, e39_49, e39_52, e39_56, e39_60, e39_63, e39_67, e39_71, e39_74, e39_78, e39_82, e39_85, e39_86, e39_88, e39_89, e39_92, e39_93, e39_96, e39_100, e39_105, e39_108, e39_111, e39_28, e39_36, e39_97, n_D_5, n_D_16, n_D_42, n_D_53, n_D_64, n_D_75, zpF_0, List.append_assoc, List.cons_append, List.nil_append, List.length_append, List.length_cons, List.length_nil, stL_len, hiL_len, swL_len, pdL_len, lyL_len, Nat.reduceAdd, Nat.reduceLT, List.set_cons_succ, List.set_cons_zero, Nat.add_assoc, ↓reduceIte]
  rfl
theorem d_D_87 {i c : Nat} {w : Nat × (Nat → Int32)} (hi : i < 2) : Ev 39 87 [.ref 0, .int (nI i)] [] (dH i, (c, w)) Q = Ev 39 87 [.ref 0, .int (nI (i + 1))] [] (dH (i + 1), (c + 489, w)) Q := by
  have e1 : ¬ (2 : Int32) ≤ nI i := nI_ge (b := 2) hi (by omega)
  have e2 : (nI i).toNatClampNeg = i := nI_clamp (by omega)
  have eg : ∀ P, zopt (zgF (dH i) 0 5 2) P = P (.ref 75) := fun P => zgF_0
  have el := dH_len i
  rw [e39_87]
  simp only [e39_0, e39_1, e39_4, e39_8, e39_12, e39_15, e39_19, e39_23, e39_26, e39_27, e39_31, e39_34, e39_35, e39_38, e39_41, e39_45, e39_49, e39_52, e39_56, e39_60, e39_63, e39_67, e39_71, e39_74, e39_78, e39_82, e39_85, e39_86, e39_88, e39_89, e39_92, e39_93, e39_96, e39_100, e39_105, e39_108, e39_111, e39_5, e39_16, e39_28, e39_36, e39_42, e39_53, e39_64, e39_75, e1, ↓reduceIte, eg, n_D_97, el]
  have hq : zgR (dH i ++ stL (90 + 9 * i)) 75 = some (2, rfS 90 i) := by
    rcases (show i = 0 ∨ i = 1 by omega) with rfl | rfl <;> rfl
  have hr : zisO (dH i ++ stL (90 + 9 * i)) (90 + 9 * i) 3 = true := by rw [zisO, ap_at0 el]; rfl
  rw [e39_104 hq (show zinb (nI i) 2 = true from zinb_nI hi (by decide)) hr, e2]
  have es : (dH i ++ stL (90 + 9 * i)).set 75 (zrr 2 (va_up (rfS 90 i) i (some (90 + 9 * i)))) = dH (i + 1) := by
    rcases (show i = 0 ∨ i = 1 by omega) with rfl | rfl <;> rfl
  dsimp only
  rw [es, e39_105, e39_108, nI_1]
theorem c_D_init : Ev 39 0 [.ref 0, zU] [] ([zob 5 [.null, .null, .null, .null, .null, .null, .null, .null]], z) Q = Q none (dH 2, (z.1 + 6316, z.2)) := by
  rw [d_D_0, show (0 : Int32) = nI 0 from rfl, d_D_87 (by decide), d_D_87 (by decide), e39_87]
  have e1 : (2 : Int32) ≤ nI (0 + 1 + 1) := by decide
  simp only [e39_0, e39_1, e39_4, e39_8, e39_12, e39_15, e39_19, e39_23, e39_26, e39_27, e39_31, e39_34, e39_35, e39_38, e39_41, e39_45, e39_49, e39_52, e39_56, e39_60, e39_63, e39_67, e39_71, e39_74, e39_78, e39_82, e39_85, e39_86, e39_88, e39_89, e39_92, e39_93, e39_96, e39_100, e39_105, e39_108, e39_111, e39_5, e39_16, e39_28, e39_36, e39_42, e39_53, e39_64, e39_75, e1, ↓reduceIte, Nat.add_assoc, Nat.reduceAdd]
def moL (k : Nat) : List zC := [zob 6 [.ref (k + 1), .ref (k + 2), .ref (k + 3), .int 0, .ref (k + 4), .ref (k + 5), .ref (k + 6), .ref (k + 7), .int 0, .ref (k + 8), .ref (k + 9), .ref (k + 10), .int 0, .int 0, .ref (k + 11), .int 0, .int 0, .int 0, .int 0, .int 0, .int 0],
  zar .int 484 (upd (fun _ => 0) 0 2), zar .int 484 (fun _ => 0), zar .int 2904 (fun _ => 0), zar .int 968 (fun _ => 0), zar .int 2 (fun _ => 0), zar .int 12 (fun _ => 0), zar .int 3 (fun _ => 0), zar .int 40 (fun _ => 0), zar .int 12 (fun _ => 0), zar .int 12 (fun _ => 0), zar .int 60 (fun _ => 0)]
theorem zgA_a {h0 t : List zC} {a : zC} {n : Nat} {ty : FieldType} {f : Nat → Int32} {P : Nat × (Nat → Int32) → Prop} : zopt (zgA (h0 ++ (a :: zar ty n f :: t)) (h0.length + 1) ty) P = P (n, f) := by
  unfold zgA
  rw [ap_at rfl]
  simp only [List.getElem?_cons_succ, List.getElem?_cons_zero, ↓reduceIte]
  rfl
theorem zset_a {h0 t : List zC} {a b c : zC} : (h0 ++ (a :: b :: t)).set (h0.length + 1) c = h0 ++ (a :: c :: t) := ap_set (i := 1) rfl
theorem c_M_init {h0 : List zC} : Ev 82 0 [.ref h0.length] [] (h0 ++ [zob 6 [.null, .null, .null, .int 0, .null, .null, .null, .null, .int 0, .null, .null, .null, .int 0, .int 0, .null, .int 0, .int 0, .int 0, .int 0, .int 0, .int 0]], z) Q = Q none (h0 ++ moL h0.length, (z.1 + 4981, z.2)) := by
  simp only [e82_0, e82_1, e82_4, e82_5, e82_10, e82_13, e82_14, e82_19, e82_22, e82_23, e82_28, e82_31, e82_32, e82_37, e82_40, e82_41, e82_44, e82_47, e82_48, e82_52, e82_55, e82_56, e82_59, e82_62, e82_63, e82_67, e82_70, e82_71, e82_75, e82_78, e82_79, e82_83, e82_86, e82_87, e82_91, e82_95, e82_98, e82_99, e82_100, e82_101, e82_8, e82_17, e82_26, e82_35, e82_42, e82_50, e82_57, e82_65, e82_73, e82_81, e82_89, zpF_a, List.append_assoc, List.cons_append, List.nil_append, List.length_append, List.length_cons, List.length_nil, Nat.reduceAdd, Nat.reduceLT, List.set_cons_succ, List.set_cons_zero, Nat.add_assoc, ↓reduceIte]
  rw [e82_94]
  simp only [e82_0, e82_1, e82_4, e82_5, e82_10, e82_13, e82_14, e82_19, e82_22, e82_23, e82_28, e82_31, e82_32, e82_37, e82_40, e82_41, e82_44, e82_47, e82_48, e82_52, e82_55, e82_56, e82_59, e82_62, e82_63, e82_67, e82_70, e82_71, e82_75, e82_78, e82_79, e82_83, e82_86, e82_87, e82_91, e82_95, e82_98, e82_99, e82_100, e82_101, e82_8, e82_17, e82_26, e82_35, e82_42, e82_50, e82_57, e82_65, e82_73, e82_81, e82_89, zgF_a, List.getElem?_cons_zero, zopt_some, zgA_a, zset_a, vp_narI, (show zinb 0 484 = true by decide), (show (0 : Int32).toNatClampNeg = 0 by decide), true_and]
  rfl
end ZC
end
