/-! rows stay well; the class stands at a row -/
section
set_option maxRecDepth 100000
section ZG
variable {a : Nat → Int32}
theorem zG_chS {s v : Int32} (hg : zG a) : zG (chS a s v).2 := by
  unfold chS
  split
  next h =>
    obtain ⟨-, h1, h2⟩ := h
    have h0 : ¬ v < 0 := Int32.not_lt.mpr (Int32.le_trans (by decide) h1)
    obtain ⟨c, hc, rfl⟩ := nI_of h0
    exact (fmA_ok (zG_cop hg ((nI_leI (by decide) hc).mp h1) ((nI_leI hc (by decide)).mp h2))).1
  next =>
    split
    next h => obtain ⟨c, hc, rfl⟩ := zinb_ex h.2 (by decide); exact (fmA_ok (zG_salt hg (by omega))).1
    next => exact hg
theorem zG_chB {r w : Int32} (hg : zG a) : zG (chB a r w).2 := by
  unfold chB
  split
  next h =>
    obtain ⟨r', hr, rfl⟩ := zinb_ex h.1 (by decide)
    obtain ⟨w', hw, rfl⟩ := zinb_ex h.2 (by decide)
    split
    next h2 => exact (fmA_ok (zG_bld hg h2 hr (by omega))).1
    next => exact hg
  next => exact hg
theorem zG_chW {s w : Int32} (hg : zG a) : zG (chW a s w).2 := by
  have b2 := hg.2.2.1.2
  unfold chW
  split
  next h =>
    obtain ⟨s', hs, rfl⟩ := zinb_ex h (by omega)
    split
    next h2 =>
      obtain ⟨w', hw, rfl⟩ := zinb_ex h2 (by decide)
      rw [nI_clamp (by omega)]
      exact (fmA_ok (zG_weigh hg (by omega) (by omega))).1
    next => exact hg
  next => exact hg
theorem zG_chR {s w : Int32} (hg : zG a) : zG (chR a s w).2 := by
  have b2 := hg.2.2.1.2
  unfold chR
  split
  next h =>
    obtain ⟨s', hs, rfl⟩ := zinb_ex h (by omega)
    split
    next h2 =>
      obtain ⟨w', hw, rfl⟩ := zinb_ex h2 (by decide)
      rw [nI_clamp (by omega)]
      exact (fmA_ok (zG_rack hg (by omega) hw)).1
    next => exact hg
  next => exact hg
theorem zG_chD {s d : Int32} (hg : zG a) (hd : d = 0 ∨ d = 1) : zG (chD a s d).2 := by
  have b2 := hg.2.2.1.2
  unfold chD
  split
  next h =>
    obtain ⟨s', hs, rfl⟩ := zinb_ex h (by omega)
    rw [nI_clamp (by omega)]
    split
    next => exact hg
    next => exact (fmA_ok (zG_down hg (by omega) hd)).1
  next => exact hg
theorem zG_chK {o : Int32} (hg : zG a) : zG (chK a o).2 := by
  unfold chK
  split
  next h =>
    obtain ⟨c, hc, rfl⟩ := zinb_ex h (by decide)
    split
    next h2 =>
      split
      next => exact zG_insA hg h2 (by omega)
      next => exact hg
    next => exact hg
  next => exact hg
theorem zG_chP {o v : Int32} (hg : zG a) : zG (chP a o v).2 := by
  have b2 := hg.2.2.1.2
  have b3 := hg.2.2.2.1.2
  unfold chP
  split
  next => exact hg
  next h =>
    obtain ⟨q, h1, h2, h3, h4⟩ := fnd_ok hg h
    split
    next h5 =>
      refine (fmA_ok (zG_pin hg (by omega) ?_)).1
      rcases h5 with h5 | h5
      · exact Or.inl h5
      · obtain ⟨c, hc, rfl⟩ := zinb_ex h5 (by omega)
        exact Or.inr ⟨c, hc, rfl⟩
    next => exact hg
def ordA (a : Nat → Int32) (c fi se : Int32) : Int32 × (Nat → Int32) :=
  if c = 43 then chK a fi else if c = 45 then chX a fi else if c = 119 then chW a fi se else if c = 100 then chD a fi 1 else if c = 117 then chD a fi 0 else if c = 112 then chP a fi se else (-3, a)
end ZG
section CC
variable {a b : Nat → Int32}
theorem gN_c (e : ∀ k, k < 484 → b k = a k) {i : Nat} (hi : i < 484) : gN b i = gN a i := by unfold gN; rw [e i hi]
theorem zG_c (hg : zG a) (e : ∀ k, k < 484 → b k = a k) : zG b := zG_eq hg (by rw [gN_c e (by decide), e 4 (by decide)]; exact hg.2.2.2.2.1) (fun i h1 _ => e i (by omega))
theorem zSt.c {h : List zC} {k : Nat} (hS : zSt h k a) (hg : zG a) (e : ∀ k, k < 484 → b k = a k) : zSt h k b := by
  have b2 := hg.2.2.1.2
  have b3 := hg.2.2.2.1.2
  have b4 := hg.2.2.2.2.1.2
  obtain ⟨h0, ⟨f1, g1, e1⟩, ⟨f2, g2, e2⟩, ⟨f3, g3, e3⟩, ⟨f4, g4, e4⟩, ⟨f5, g5, e5⟩, ⟨f6, g6, e6⟩, ⟨f7, g7, e7⟩, ⟨f8, g8, e8⟩⟩ := hS
  refine ⟨?_, ⟨f1, g1, fun i hi => ?_⟩, ⟨f2, g2, fun i hi => ?_⟩, ⟨f3, g3, fun i hi => ?_⟩, ⟨f4, g4, fun i hi => ?_⟩, ⟨f5, g5, fun i hi => ?_⟩, ⟨f6, g6, fun i hi => ?_⟩, ⟨f7, g7, fun i hi => ?_⟩, ⟨f8, g8, fun i hi => ?_⟩⟩
  · rw [e 0 (by decide), e 1 (by decide), e 2 (by decide), e 3 (by decide), e 4 (by decide)]; exact h0
  · rw [gN_c e (by decide)] at hi; rw [e _ (by omega)]; exact e1 i hi
  · rw [gN_c e (by decide)] at hi; rw [e _ (by omega)]; exact e2 i hi
  · rw [gN_c e (by decide)] at hi; rw [e _ (by omega)]; exact e3 i hi
  · rw [gN_c e (by decide)] at hi; rw [e _ (by omega)]; exact e4 i hi
  · rw [gN_c e (by decide)] at hi; rw [e _ (by omega)]; exact e5 i hi
  · rw [gN_c e (by decide)] at hi; rw [e _ (by omega)]; exact e6 i hi
  · rw [gN_c e (by decide)] at hi; rw [e _ (by omega)]; exact e7 i hi
  · rw [gN_c e (by decide)] at hi; rw [e _ (by omega)]; exact e8 i hi
theorem zKo.c {h : List zC} {P T : Nat} (hK : zKo h P T a) (hg : zG a) (e : ∀ k, k < 484 → b k = a k) : zKo h P T b := by
  obtain ⟨⟨k1, k2, k3, k4⟩, k5⟩ := hK
  have em : zEqM a b := fun i h1 _ => e i (by omega)
  exact ⟨⟨k1, k2, k3.c hg e, k4⟩, em.ly hg k5⟩
variable {h h' : List zC} {n l : Nat} {H S : Nat → Nat → Int32} {sv f : Nat → Int32}
theorem zCl.c (hC : zCl h a n H sv S l f) (hg : zG a) (e : ∀ k, k < 484 → b k = a k) : zCl h b n H sv S l f := by
  obtain ⟨⟨P, T, hK⟩, h2⟩ := hC
  exact ⟨⟨P, T, hK.c hg e⟩, h2⟩
theorem zCl.fr (hC : zCl h a n H sv S l f) (hf : ∀ j, j < 108 → h'[j]? = h[j]?) : zCl h' a n H sv S l f := by
  obtain ⟨⟨P, T, hK⟩, hH, hL, hP⟩ := hC
  exact ⟨⟨P, T, hK.fr (fun j hj => hf j (by unfold zWr at hj; omega))⟩, hH.fr (fun j x1 x2 => hf j (by omega)), hL.fr (fun j hj => hf j (by omega)), hP.fr (fun j x1 x2 => hf j (by omega))⟩
theorem zCl.ko {P T : Nat} (hC : zCl h a n H sv S l f) (hF : zFr zWr h h') (hK : zKo h' P T b) : zCl h' b n H sv S l f := by
  obtain ⟨-, hH, hL, hP⟩ := hC
  exact ⟨⟨P, T, hK⟩, hH.fr (fun j x1 x2 => hF.2 j (by unfold zWr; omega)), hL.fr (fun j hj => hF.2 j (by unfold zWr; omega)), hP.fr (fun j x1 x2 => hF.2 j (by unfold zWr; omega))⟩
theorem zWr_108 (hF : zFr zWr h h') : zFr (fun j => j < 108) h h' := hF.mono (fun j hj => by unfold zWr at hj; omega)
theorem zCl.o (hC : zCl h a n H sv S l f) : zisO h 0 5 = true := by
  obtain ⟨⟨P, T, hK⟩, -⟩ := hC
  have D0 : h[0]? = some (zob 5 [.ref 1, .ref 10, .ref 75, .ref 76, .ref 77, .ref 80, .ref P, .ref T]) := hK.1.2.1
  rw [zisO, D0]; rfl
end CC
end
