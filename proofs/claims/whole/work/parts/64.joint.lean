/-! both sides together -/
section
set_option maxRecDepth 100000
section CC
variable {a b : Nat → Int32}
theorem gN_c (e : ∀ k, k < 484 → b k = a k) {i : Nat} (hi : i < 484) : gN b i = gN a i := by unfold gN; rw [e i hi]
theorem zG_c (hg : zG a) (e : ∀ k, k < 484 → b k = a k) : zG b := zG_eq hg (by rw [gN_c e (by decide), e 4 (by decide)]; exact hg.2.2.2.2.1) (fun i h1 _ => e i (by omega))
theorem zSt.c {h : List zC} {k : Nat} (hS : zSt h k a) (hg : zG a) (e : ∀ k, k < 484 → b k = a k) : zSt h k b := by
  have b2 := hg.2.2.1.2
  have b3 := hg.2.2.2.1.2
  have b4 := hg.2.2.2.2.1.2
  obtain ⟨h0, ⟨f1, g1, e1⟩, ⟨f2, g2, e2⟩, ⟨f3, g3, e3⟩, ⟨f4, g4, e4⟩, ⟨f5, g5, e5⟩, ⟨f6, g6, e6⟩, ⟨f7, g7, e7⟩, ⟨f8, g8, e8⟩⟩ := hS
  refine ⟨?_, ⟨f1, g1, fun i hi => ?_⟩, ⟨f2, g2, fun i hi => ?_⟩, ⟨f3, g3, fun i hi => ?_⟩, ⟨f4, g4, fun i hi => ?_⟩, ⟨f5, g5, fun i hi => ?_⟩, ⟨f6, g6, fun i hi => ?_⟩, ⟨f7, g7, fun i hi => ?_⟩, ⟨f8, g8, fun i hi => ?_⟩⟩
  · rw [e 0 (by decide), e 1 (by decide), e 2 (by decide), e 3 (by decide), e 4 (by decide)]; exact h0
  · rw [gN_c e (by decide)] at hi; rw [e _ (by omega)]; exact e1 i hi
  · rw [gN_c e (by decide)] at hi; rw [e _ (by omega)]; exact e2 i hi
  · rw [gN_c e (by decide)] at hi; rw [e _ (by omega)]; exact e3 i hi
  · rw [gN_c e (by decide)] at hi; rw [e _ (by omega)]; exact e4 i hi
  · rw [gN_c e (by decide)] at hi; rw [e _ (by omega)]; exact e5 i hi
  · rw [gN_c e (by decide)] at hi; rw [e _ (by omega)]; exact e6 i hi
  · rw [gN_c e (by decide)] at hi; rw [e _ (by omega)]; exact e7 i hi
  · rw [gN_c e (by decide)] at hi; rw [e _ (by omega)]; exact e8 i hi
theorem zKo.c {h : List zC} {P T : Nat} (hK : zKo h P T a) (hg : zG a) (e : ∀ k, k < 484 → b k = a k) : zKo h P T b := by
  obtain ⟨⟨k1, k2, k3, k4⟩, k5⟩ := hK
  have em : zEqM a b := fun i h1 _ => e i (by omega)
  exact ⟨⟨k1, k2, k3.c hg e, k4⟩, em.ly hg k5⟩
variable {h h' : List zC} {n l : Nat} {H S : Nat → Nat → Int32} {sv f : Nat → Int32}
theorem zCl.c (hC : zCl h a n H sv S l f) (hg : zG a) (e : ∀ k, k < 484 → b k = a k) : zCl h b n H sv S l f := by
  obtain ⟨⟨P, T, hK⟩, h2⟩ := hC
  exact ⟨⟨P, T, hK.c hg e⟩, h2⟩
theorem zCl.fr (hC : zCl h a n H sv S l f) (hf : ∀ j, j < 108 → h'[j]? = h[j]?) : zCl h' a n H sv S l f := by
  obtain ⟨⟨P, T, hK⟩, hH, hL, hP⟩ := hC
  exact ⟨⟨P, T, hK.fr (fun j hj => hf j (by unfold zWr at hj; omega))⟩, hH.fr (fun j x1 x2 => hf j (by omega)), hL.fr (fun j hj => hf j (by omega)), hP.fr (fun j x1 x2 => hf j (by omega))⟩
theorem zCl.ko {P T : Nat} (hC : zCl h a n H sv S l f) (hF : zFr zWr h h') (hK : zKo h' P T b) : zCl h' b n H sv S l f := by
  obtain ⟨-, hH, hL, hP⟩ := hC
  exact ⟨⟨P, T, hK⟩, hH.fr (fun j x1 x2 => hF.2 j (by unfold zWr; omega)), hL.fr (fun j hj => hF.2 j (by unfold zWr; omega)), hP.fr (fun j x1 x2 => hF.2 j (by unfold zWr; omega))⟩
theorem zWr_108 (hF : zFr zWr h h') : zFr (fun j => j < 108) h h' := hF.mono (fun j hj => by unfold zWr at hj; omega)
theorem zCl.o (hC : zCl h a n H sv S l f) : zisO h 0 5 = true := by
  obtain ⟨⟨P, T, hK⟩, -⟩ := hC
  have D0 : h[0]? = some (zob 5 [.ref 1, .ref 10, .ref 75, .ref 76, .ref 77, .ref 80, .ref P, .ref T]) := hK.1.2.1
  rw [zisO, D0]; rfl
theorem zCl.l60 (hC : zCl h a n H sv S l f) : l ≤ 60 := hC.2.2.2.2.2.1
end CC
/-- both objects stand and agree -/
def zJ (h : List zC) : Prop := ∃ M n H sv S l, zMM h M ∧ zG (M 0) ∧ zCl h (M 0) n H sv S l (M 14) ∧ zHm M n H ∧ zSm M sv S ∧ M 15 0 = nI l
theorem zJ_g {T : List Nat} {h1 h2 : List zC} {M M2 : Nat → Nat → Int32} {b f' : Nat → Int32} {n' l' : Nat} {H' S' : Nat → Nat → Int32} {sv' : Nat → Int32} (V2 : zMv T h1 M h2 M2) (C1 : zCl h1 b n' H' sv' S' l' f') (hb : zG b) (E0 : ∀ k, k < 484 → M2 0 k = b k) (E14 : M2 14 = f') (H2 : zHm M2 n' H') (S2 : zSm M2 sv' S') (L2 : M2 15 0 = nI l') : zJ h2 := by
  refine ⟨M2, n', H', sv', S', l', V2.mm, zG_c hb E0, ?_, H2, S2, L2⟩
  rw [E14]
  exact (C1.c hb E0).fr (fun j hj => V2.1.2 j (by omega))
end
