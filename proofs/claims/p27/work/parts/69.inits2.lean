/-! both constructors -/
section
set_option maxRecDepth 100000
def hiL (k : Nat) : List zC := zob 0 [.ref (k + 1), .int 0, .int 0] :: zrr 7 (rfS (k + 2) 7) :: sts (k + 2) 7
theorem stL_len (k : Nat) : (stL k).length = 9 := rfl
theorem lyL_len (k : Nat) : (lyL k).length = 4 := rfl
theorem pdL_len (k : Nat) : (pdL k).length = 2 := rfl
theorem swL_len (k : Nat) : (swL k).length = 3 := rfl
theorem hiL_len (k : Nat) : (hiL k).length = 65 := by
  unfold hiL
  rw [List.length_cons, List.length_cons, sts_len]
theorem zpF_0 {t : List zC} {c f : Nat} {fs : List Value} {v : Value} {P : List zC → Prop} : zopt (zpF (zob c fs :: t) 0 c f v) P = if f < fs.length then P (zob c (fs.set f v) :: t) else False := zpF_a (h0 := [])
theorem zgF_0 {t : List zC} {c f : Nat} {fs : List Value} {P : Value → Prop} : zopt (zgF (zob c fs :: t) 0 c f) P = zopt fs[f]? P := zgF_a (h0 := [])
section ZC
variable {h : List zC} {z : Nat × (Nat × (Nat → Int32))} {Q : Option Value → zX → Prop}
theorem n_D_5 {l0 s0 : Nat} {l1 : Value} : Ev 29 5 [.ref l0, l1] [.ref s0] (h, z) Q = Ev 29 12 [.ref l0, l1] [.ref h.length, .ref s0] (h ++ stL h.length, (z.1 + 489, z.2)) Q := by
  rw [e29_5]; dsimp only; rw [e29_8, e29_9, c_S_init]; simp only [zisO_last, true_and, zpush, Nat.add_assoc, Nat.reduceAdd]
theorem n_D_16 {l0 s0 : Nat} {l1 : Value} : Ev 29 16 [.ref l0, l1] [.ref s0] (h, z) Q = Ev 29 23 [.ref l0, l1] [.ref h.length, .ref s0] (h ++ hiL h.length, (z.1 + 3433, z.2)) Q := by
  rw [e29_16]; dsimp only; rw [e29_19, e29_20, c_H_init]; simp only [zisO_last, true_and, zpush, Nat.add_assoc, Nat.reduceAdd, Nat.reduceMul]; rfl
theorem n_D_42 {l0 s0 : Nat} {l1 : Value} : Ev 29 42 [.ref l0, l1] [.ref s0] (h, z) Q = Ev 29 49 [.ref l0, l1] [.ref h.length, .ref s0] (h ++ swL h.length, (z.1 + 986, z.2)) Q := by
  rw [e29_42]; dsimp only; rw [e29_45, e29_46, c_W_init]; simp only [zisO_last, true_and, zpush, Nat.add_assoc, Nat.reduceAdd]
theorem n_D_53 {l0 s0 : Nat} {l1 : Value} : Ev 29 53 [.ref l0, l1] [.ref s0] (h, z) Q = Ev 29 60 [.ref l0, l1] [.ref h.length, .ref s0] (h ++ pdL h.length, (z.1 + 66, z.2)) Q := by
  rw [e29_53]; dsimp only; rw [e29_56, e29_57, c_P_init]; simp only [zisO_last, true_and, zpush, Nat.add_assoc, Nat.reduceAdd]
theorem n_D_64 {l0 s0 : Nat} {l1 : Value} : Ev 29 64 [.ref l0, l1] [.ref s0] (h, z) Q = Ev 29 71 [.ref l0, l1] [.ref h.length, .ref s0] (h ++ lyL h.length, (z.1 + 180, z.2)) Q := by
  rw [e29_64]; dsimp only; rw [e29_67, e29_68, c_Y_init]; simp only [zisO_last, true_and, zpush, Nat.add_assoc, Nat.reduceAdd]
theorem n_D_75 {l0 s0 : Nat} {l1 : Value} : Ev 29 75 [.ref l0, l1] [.ref s0] (h, z) Q = Ev 29 82 [.ref l0, l1] [.ref h.length, .ref s0] (h ++ lyL h.length, (z.1 + 180, z.2)) Q := by
  rw [e29_75]; dsimp only; rw [e29_78, e29_79, c_Y_init]; simp only [zisO_last, true_and, zpush, Nat.add_assoc, Nat.reduceAdd]
theorem n_D_97 {l0 s1 : Nat} {l1 s0 : Int32} : Ev 29 97 [.ref l0, .int l1] [.int s0, .ref s1] (h, z) Q = Ev 29 104 [.ref l0, .int l1] [.ref h.length, .int s0, .ref s1] (h ++ stL h.length, (z.1 + 489, z.2)) Q := by
  rw [e29_97]; dsimp only; rw [e29_100, e29_101, c_S_init]; simp only [zisO_last, true_and, zpush, Nat.add_assoc, Nat.reduceAdd]
def dH (i : Nat) : List zC := zob 5 [.ref 1, .ref 10, .ref 75, .ref 76, .ref 77, .ref 80, .ref 82, .ref 86] :: (stL 1 ++ (hiL 10 ++ (zrr 2 (rfS 90 i) :: zar .boolean 2 (fun _ => 0) :: (swL 77 ++ (pdL 80 ++ (lyL 82 ++ (lyL 86 ++ sts 90 i)))))))
theorem dH_len (i : Nat) : (dH i).length = 90 + 9 * i := by
  unfold dH
  simp only [List.length_cons, List.length_append, stL_len, hiL_len, swL_len, pdL_len, lyL_len, sts_len]
  omega
theorem d_D_0 : Ev 29 0 [.ref 0, zU] [] ([zob 5 [.null, .null, .null, .null, .null, .null, .null, .null]], z) Q = Ev 29 87 [.ref 0, .int 0] [] (dH 0, (z.1 + 5338, z.2)) Q := by
  simp only [e29_0, e29_1, e29_4, e29_8, e29_12, e29_15, e29_19, e29_23, e29_26, e29_27, e29_31, e29_34, e29_35, e29_38, e29_41, e29_45, e29_49, e29_52, e29_56, e29_60, e29_63, e29_67, e29_71, e29_74, e29_78, e29_82, e29_85, e29_86, e29_88, e29_89, e29_92, e29_93, e29_96, e29_100, e29_105, e29_108, e29_111, e29_28, e29_36, e29_97, n_D_5, n_D_16, n_D_42, n_D_53, n_D_64, n_D_75, zpF_0, List.append_assoc, List.cons_append, List.nil_append, List.length_append, List.length_cons, List.length_nil, stL_len, hiL_len, swL_len, pdL_len, lyL_len, Nat.reduceAdd, Nat.reduceLT, List.set_cons_succ, List.set_cons_zero, Nat.add_assoc, ↓reduceIte]
  rfl
theorem d_D_87 {i c : Nat} {w : Nat × (Nat → Int32)} (hi : i < 2) : Ev 29 87 [.ref 0, .int (nI i)] [] (dH i, (c, w)) Q = Ev 29 87 [.ref 0, .int (nI (i + 1))] [] (dH (i + 1), (c + 489, w)) Q := by
  have e1 : ¬ (2 : Int32) ≤ nI i := nI_ge (b := 2) hi (by omega)
  have e2 : (nI i).toNatClampNeg = i := nI_clamp (by omega)
  have eg : ∀ P, zopt (zgF (dH i) 0 5 2) P = P (.ref 75) := fun P => zgF_0
  have el := dH_len i
  rw [e29_87]
  simp only [e29_0, e29_1, e29_4, e29_8, e29_12, e29_15, e29_19, e29_23, e29_26, e29_27, e29_31, e29_34, e29_35, e29_38, e29_41, e29_45, e29_49, e29_52, e29_56, e29_60, e29_63, e29_67, e29_71, e29_74, e29_78, e29_82, e29_85, e29_86, e29_88, e29_89, e29_92, e29_93, e29_96, e29_100, e29_105, e29_108, e29_111, e29_5, e29_16, e29_28, e29_36, e29_42, e29_53, e29_64, e29_75, e1, ↓reduceIte, eg, n_D_97, el]
  have hq : zgR (dH i ++ stL (90 + 9 * i)) 75 = some (2, rfS 90 i) := by
    rcases (show i = 0 ∨ i = 1 by omega) with rfl | rfl <;> rfl
  have hr : zisO (dH i ++ stL (90 + 9 * i)) (90 + 9 * i) 3 = true := by rw [zisO, ap_at0 el]; rfl
  rw [e29_104 hq (show zinb (nI i) 2 = true from zinb_nI hi (by decide)) hr, e2]
  have es : (dH i ++ stL (90 + 9 * i)).set 75 (zrr 2 (va_up (rfS 90 i) i (some (90 + 9 * i)))) = dH (i + 1) := by
    rcases (show i = 0 ∨ i = 1 by omega) with rfl | rfl <;> rfl
  dsimp only
  rw [es, e29_105, e29_108, nI_1]
theorem c_D_init : Ev 29 0 [.ref 0, zU] [] ([zob 5 [.null, .null, .null, .null, .null, .null, .null, .null]], z) Q = Q none (dH 2, (z.1 + 6316, z.2)) := by
  rw [d_D_0, show (0 : Int32) = nI 0 from rfl, d_D_87 (by decide), d_D_87 (by decide), e29_87]
  have e1 : (2 : Int32) ≤ nI (0 + 1 + 1) := by decide
  simp only [e29_0, e29_1, e29_4, e29_8, e29_12, e29_15, e29_19, e29_23, e29_26, e29_27, e29_31, e29_34, e29_35, e29_38, e29_41, e29_45, e29_49, e29_52, e29_56, e29_60, e29_63, e29_67, e29_71, e29_74, e29_78, e29_82, e29_85, e29_86, e29_88, e29_89, e29_92, e29_93, e29_96, e29_100, e29_105, e29_108, e29_111, e29_5, e29_16, e29_28, e29_36, e29_42, e29_53, e29_64, e29_75, e1, ↓reduceIte, Nat.add_assoc, Nat.reduceAdd]
end ZC
end
