/-! the model's object and its rows -/
section
set_option maxRecDepth 100000
def aM (M : Nat → Nat → Int32) (c i : Nat) (v : Int32) : Nat → Nat → Int32 := fun c' => if c' = c then upd (M c) i v else M c'
theorem aM_s {M : Nat → Nat → Int32} {c i : Nat} {v : Int32} : aM M c i v c = upd (M c) i v := if_pos rfl
theorem aM_n {M : Nat → Nat → Int32} {c i : Nat} {v : Int32} {c' : Nat} (h : c' ≠ c) : aM M c i v c' = M c' := if_neg h
/-- the model's object stands at 108, its rows behind it; M names them by their fields -/
def zMM (h : List zC) (M : Nat → Nat → Int32) : Prop := h[108]? = some (zob 6 [.ref 109, .ref 110, .ref 111, .int (M 3 0), .ref 112, .ref 113, .ref 114, .ref 115, .int (M 8 0), .ref 116, .ref 117, .ref 118, .int (M 12 0), .int (M 13 0), .ref 119, .int (M 15 0), .int (M 16 0), .int (M 17 0), .int (M 18 0), .int (M 19 0), .int (M 20 0)]) ∧
  h[109]? = some (zar .int 484 (M 0)) ∧ h[110]? = some (zar .int 484 (M 1)) ∧ h[111]? = some (zar .int 2904 (M 2)) ∧ h[112]? = some (zar .int 968 (M 4)) ∧ h[113]? = some (zar .int 2 (M 5)) ∧ h[114]? = some (zar .int 12 (M 6)) ∧ h[115]? = some (zar .int 3 (M 7)) ∧ h[116]? = some (zar .int 40 (M 9)) ∧ h[117]? = some (zar .int 12 (M 10)) ∧ h[118]? = some (zar .int 12 (M 11)) ∧ h[119]? = some (zar .int 60 (M 14))
/-- only the model's parts in T have changed -/
def zMv (T : List Nat) (h : List zC) (M : Nat → Nat → Int32) (h' : List zC) (M' : Nat → Nat → Int32) : Prop := zFr (fun j => 108 ≤ j) h h' ∧ zMM h' M' ∧ ∀ c, T.contains c = false → M' c = M c
section ZM
variable {T T' : List Nat} {h h1 h2 : List zC} {M M1 M2 : Nat → Nat → Int32} {z : Nat × (Nat × (Nat → Int32))} {Q : Option Value → zX → Prop}
theorem zMv.mm (V : zMv T h M h1 M1) : zMM h1 M1 := V.2.1
theorem zMv.k (V : zMv T h M h1 M1) (c : Nat) (hc : T.contains c = false) : M1 c = M c := V.2.2 c hc
theorem zMM.rf (hM : zMM h M) : zMv T h M h M := ⟨zFr.rf, hM, fun _ _ => rfl⟩
theorem zMv.mono (V : zMv T h M h1 M1) (hT : T.all (fun c => T'.contains c) = true) : zMv T' h M h1 M1 := by
  refine ⟨V.1, V.2.1, fun c hc => V.2.2 c ?_⟩
  rw [← Bool.not_eq_true] at hc ⊢
  intro h
  rw [List.contains_iff_mem] at h
  exact hc (List.all_eq_true.mp hT c h)
theorem zMv.tr (V : zMv T h M h1 M1) (W : zMv T h1 M1 h2 M2) : zMv T h M h2 M2 := ⟨V.1.tr W.1, W.2.1, fun c hc => (W.2.2 c hc).trans (V.2.2 c hc)⟩
theorem zMv.to (V : zMv T h M h1 M1) (W : zMv T' h1 M1 h2 M2) (hT : T'.all (fun c => T.contains c) = true) : zMv T h M h2 M2 := V.tr (W.mono hT)
theorem zMM.fr (hM : zMM h M) (hf : ∀ j, 108 ≤ j → j ≤ 119 → h1[j]? = h[j]?) : zMM h1 M := by
  obtain ⟨q0, q1, q2, q3, q4, q5, q6, q7, q8, q9, q10, q11⟩ := hM
  exact ⟨(hf _ (by decide) (by decide)).trans q0, (hf _ (by decide) (by decide)).trans q1, (hf _ (by decide) (by decide)).trans q2, (hf _ (by decide) (by decide)).trans q3, (hf _ (by decide) (by decide)).trans q4, (hf _ (by decide) (by decide)).trans q5, (hf _ (by decide) (by decide)).trans q6, (hf _ (by decide) (by decide)).trans q7, (hf _ (by decide) (by decide)).trans q8, (hf _ (by decide) (by decide)).trans q9, (hf _ (by decide) (by decide)).trans q10, (hf _ (by decide) (by decide)).trans q11⟩
theorem zMM.q (hM : zMM h M) : zisO h 108 6 = true ∧ (∀ f : Value → Prop, zopt (zgF h 108 6 0) f = f (.ref 109)) ∧ (∀ f : Value → Prop, zopt (zgF h 108 6 1) f = f (.ref 110)) ∧ (∀ f : Value → Prop, zopt (zgF h 108 6 2) f = f (.ref 111)) ∧ (∀ f : Value → Prop, zopt (zgF h 108 6 3) f = f (.int (M 3 0))) ∧ (∀ f : Value → Prop, zopt (zgF h 108 6 4) f = f (.ref 112)) ∧ (∀ f : Value → Prop, zopt (zgF h 108 6 5) f = f (.ref 113)) ∧ (∀ f : Value → Prop, zopt (zgF h 108 6 6) f = f (.ref 114)) ∧ (∀ f : Value → Prop, zopt (zgF h 108 6 7) f = f (.ref 115)) ∧ (∀ f : Value → Prop, zopt (zgF h 108 6 8) f = f (.int (M 8 0))) ∧ (∀ f : Value → Prop, zopt (zgF h 108 6 9) f = f (.ref 116)) ∧ (∀ f : Value → Prop, zopt (zgF h 108 6 10) f = f (.ref 117)) ∧ (∀ f : Value → Prop, zopt (zgF h 108 6 11) f = f (.ref 118)) ∧ (∀ f : Value → Prop, zopt (zgF h 108 6 12) f = f (.int (M 12 0))) ∧ (∀ f : Value → Prop, zopt (zgF h 108 6 13) f = f (.int (M 13 0))) ∧ (∀ f : Value → Prop, zopt (zgF h 108 6 14) f = f (.ref 119)) ∧ (∀ f : Value → Prop, zopt (zgF h 108 6 15) f = f (.int (M 15 0))) ∧ (∀ f : Value → Prop, zopt (zgF h 108 6 16) f = f (.int (M 16 0))) ∧ (∀ f : Value → Prop, zopt (zgF h 108 6 17) f = f (.int (M 17 0))) ∧ (∀ f : Value → Prop, zopt (zgF h 108 6 18) f = f (.int (M 18 0))) ∧ (∀ f : Value → Prop, zopt (zgF h 108 6 19) f = f (.int (M 19 0))) ∧ (∀ f : Value → Prop, zopt (zgF h 108 6 20) f = f (.int (M 20 0))) ∧ (∀ f : Nat × (Nat → Int32) → Prop, zopt (zgA h 109 .int) f = f (484, M 0)) ∧ (∀ f : Nat × (Nat → Int32) → Prop, zopt (zgA h 110 .int) f = f (484, M 1)) ∧ (∀ f : Nat × (Nat → Int32) → Prop, zopt (zgA h 111 .int) f = f (2904, M 2)) ∧ (∀ f : Nat × (Nat → Int32) → Prop, zopt (zgA h 112 .int) f = f (968, M 4)) ∧ (∀ f : Nat × (Nat → Int32) → Prop, zopt (zgA h 113 .int) f = f (2, M 5)) ∧ (∀ f : Nat × (Nat → Int32) → Prop, zopt (zgA h 114 .int) f = f (12, M 6)) ∧ (∀ f : Nat × (Nat → Int32) → Prop, zopt (zgA h 115 .int) f = f (3, M 7)) ∧ (∀ f : Nat × (Nat → Int32) → Prop, zopt (zgA h 116 .int) f = f (40, M 9)) ∧ (∀ f : Nat × (Nat → Int32) → Prop, zopt (zgA h 117 .int) f = f (12, M 10)) ∧ (∀ f : Nat × (Nat → Int32) → Prop, zopt (zgA h 118 .int) f = f (12, M 11)) ∧ (∀ f : Nat × (Nat → Int32) → Prop, zopt (zgA h 119 .int) f = f (60, M 14)) := by
  obtain ⟨m, a0, a1, a2, a4, a5, a6, a7, a9, a10, a11, a14⟩ := hM
  refine ⟨?_, ?_, ?_, ?_, ?_, ?_, ?_, ?_, ?_, ?_, ?_, ?_, ?_, ?_, ?_, ?_, ?_, ?_, ?_, ?_, ?_, ?_, ?_, ?_, ?_, ?_, ?_, ?_, ?_, ?_, ?_, ?_, ?_⟩
  · rw [zisO, m]; rfl
  · intro f; rw [zgF, m]; rfl
  · intro f; rw [zgF, m]; rfl
  · intro f; rw [zgF, m]; rfl
  · intro f; rw [zgF, m]; rfl
  · intro f; rw [zgF, m]; rfl
  · intro f; rw [zgF, m]; rfl
  · intro f; rw [zgF, m]; rfl
  · intro f; rw [zgF, m]; rfl
  · intro f; rw [zgF, m]; rfl
  · intro f; rw [zgF, m]; rfl
  · intro f; rw [zgF, m]; rfl
  · intro f; rw [zgF, m]; rfl
  · intro f; rw [zgF, m]; rfl
  · intro f; rw [zgF, m]; rfl
  · intro f; rw [zgF, m]; rfl
  · intro f; rw [zgF, m]; rfl
  · intro f; rw [zgF, m]; rfl
  · intro f; rw [zgF, m]; rfl
  · intro f; rw [zgF, m]; rfl
  · intro f; rw [zgF, m]; rfl
  · intro f; rw [zgF, m]; rfl
  · intro f; rw [zgA, a0]; rfl
  · intro f; rw [zgA, a1]; rfl
  · intro f; rw [zgA, a2]; rfl
  · intro f; rw [zgA, a4]; rfl
  · intro f; rw [zgA, a5]; rfl
  · intro f; rw [zgA, a6]; rfl
  · intro f; rw [zgA, a7]; rfl
  · intro f; rw [zgA, a9]; rfl
  · intro f; rw [zgA, a10]; rfl
  · intro f; rw [zgA, a11]; rfl
  · intro f; rw [zgA, a14]; rfl
theorem zMM.p3 (hM : zMM h M) {v : Int32} {P : List zC → Prop} (hP : ∀ h' M', zMv [3] h M h' M' → M' 3 0 = v → P h') : zopt (zpF h 108 6 3 (.int v)) P := by
  obtain ⟨m, a0, a1, a2, a4, a5, a6, a7, a9, a10, a11, a14⟩ := hM
  simp only [zpF, m, List.length_cons, List.length_nil, Nat.reduceAdd, Nat.reduceLT, and_self, List.set_cons_succ, List.set_cons_zero, ↓reduceIte, zopt_some]
  refine hP _ (aM M 3 0 v) ⟨zFr.set (by decide), ⟨zset_self m, zset_ne a0 (by decide), zset_ne a1 (by decide), zset_ne a2 (by decide), zset_ne a4 (by decide), zset_ne a5 (by decide), zset_ne a6 (by decide), zset_ne a7 (by decide), zset_ne a9 (by decide), zset_ne a10 (by decide), zset_ne a11 (by decide), zset_ne a14 (by decide)⟩, fun c hc => aM_n (fun e => by subst e; exact absurd hc (by decide))⟩ ?_
  rw [aM_s, upd_s]
theorem zMM.p8 (hM : zMM h M) {v : Int32} {P : List zC → Prop} (hP : ∀ h' M', zMv [8] h M h' M' → M' 8 0 = v → P h') : zopt (zpF h 108 6 8 (.int v)) P := by
  obtain ⟨m, a0, a1, a2, a4, a5, a6, a7, a9, a10, a11, a14⟩ := hM
  simp only [zpF, m, List.length_cons, List.length_nil, Nat.reduceAdd, Nat.reduceLT, and_self, List.set_cons_succ, List.set_cons_zero, ↓reduceIte, zopt_some]
  refine hP _ (aM M 8 0 v) ⟨zFr.set (by decide), ⟨zset_self m, zset_ne a0 (by decide), zset_ne a1 (by decide), zset_ne a2 (by decide), zset_ne a4 (by decide), zset_ne a5 (by decide), zset_ne a6 (by decide), zset_ne a7 (by decide), zset_ne a9 (by decide), zset_ne a10 (by decide), zset_ne a11 (by decide), zset_ne a14 (by decide)⟩, fun c hc => aM_n (fun e => by subst e; exact absurd hc (by decide))⟩ ?_
  rw [aM_s, upd_s]
theorem zMM.p12 (hM : zMM h M) {v : Int32} {P : List zC → Prop} (hP : ∀ h' M', zMv [12] h M h' M' → M' 12 0 = v → P h') : zopt (zpF h 108 6 12 (.int v)) P := by
  obtain ⟨m, a0, a1, a2, a4, a5, a6, a7, a9, a10, a11, a14⟩ := hM
  simp only [zpF, m, List.length_cons, List.length_nil, Nat.reduceAdd, Nat.reduceLT, and_self, List.set_cons_succ, List.set_cons_zero, ↓reduceIte, zopt_some]
  refine hP _ (aM M 12 0 v) ⟨zFr.set (by decide), ⟨zset_self m, zset_ne a0 (by decide), zset_ne a1 (by decide), zset_ne a2 (by decide), zset_ne a4 (by decide), zset_ne a5 (by decide), zset_ne a6 (by decide), zset_ne a7 (by decide), zset_ne a9 (by decide), zset_ne a10 (by decide), zset_ne a11 (by decide), zset_ne a14 (by decide)⟩, fun c hc => aM_n (fun e => by subst e; exact absurd hc (by decide))⟩ ?_
  rw [aM_s, upd_s]
theorem zMM.p13 (hM : zMM h M) {v : Int32} {P : List zC → Prop} (hP : ∀ h' M', zMv [13] h M h' M' → M' 13 0 = v → P h') : zopt (zpF h 108 6 13 (.int v)) P := by
  obtain ⟨m, a0, a1, a2, a4, a5, a6, a7, a9, a10, a11, a14⟩ := hM
  simp only [zpF, m, List.length_cons, List.length_nil, Nat.reduceAdd, Nat.reduceLT, and_self, List.set_cons_succ, List.set_cons_zero, ↓reduceIte, zopt_some]
  refine hP _ (aM M 13 0 v) ⟨zFr.set (by decide), ⟨zset_self m, zset_ne a0 (by decide), zset_ne a1 (by decide), zset_ne a2 (by decide), zset_ne a4 (by decide), zset_ne a5 (by decide), zset_ne a6 (by decide), zset_ne a7 (by decide), zset_ne a9 (by decide), zset_ne a10 (by decide), zset_ne a11 (by decide), zset_ne a14 (by decide)⟩, fun c hc => aM_n (fun e => by subst e; exact absurd hc (by decide))⟩ ?_
  rw [aM_s, upd_s]
theorem zMM.p15 (hM : zMM h M) {v : Int32} {P : List zC → Prop} (hP : ∀ h' M', zMv [15] h M h' M' → M' 15 0 = v → P h') : zopt (zpF h 108 6 15 (.int v)) P := by
  obtain ⟨m, a0, a1, a2, a4, a5, a6, a7, a9, a10, a11, a14⟩ := hM
  simp only [zpF, m, List.length_cons, List.length_nil, Nat.reduceAdd, Nat.reduceLT, and_self, List.set_cons_succ, List.set_cons_zero, ↓reduceIte, zopt_some]
  refine hP _ (aM M 15 0 v) ⟨zFr.set (by decide), ⟨zset_self m, zset_ne a0 (by decide), zset_ne a1 (by decide), zset_ne a2 (by decide), zset_ne a4 (by decide), zset_ne a5 (by decide), zset_ne a6 (by decide), zset_ne a7 (by decide), zset_ne a9 (by decide), zset_ne a10 (by decide), zset_ne a11 (by decide), zset_ne a14 (by decide)⟩, fun c hc => aM_n (fun e => by subst e; exact absurd hc (by decide))⟩ ?_
  rw [aM_s, upd_s]
theorem zMM.p16 (hM : zMM h M) {v : Int32} {P : List zC → Prop} (hP : ∀ h' M', zMv [16] h M h' M' → M' 16 0 = v → P h') : zopt (zpF h 108 6 16 (.int v)) P := by
  obtain ⟨m, a0, a1, a2, a4, a5, a6, a7, a9, a10, a11, a14⟩ := hM
  simp only [zpF, m, List.length_cons, List.length_nil, Nat.reduceAdd, Nat.reduceLT, and_self, List.set_cons_succ, List.set_cons_zero, ↓reduceIte, zopt_some]
  refine hP _ (aM M 16 0 v) ⟨zFr.set (by decide), ⟨zset_self m, zset_ne a0 (by decide), zset_ne a1 (by decide), zset_ne a2 (by decide), zset_ne a4 (by decide), zset_ne a5 (by decide), zset_ne a6 (by decide), zset_ne a7 (by decide), zset_ne a9 (by decide), zset_ne a10 (by decide), zset_ne a11 (by decide), zset_ne a14 (by decide)⟩, fun c hc => aM_n (fun e => by subst e; exact absurd hc (by decide))⟩ ?_
  rw [aM_s, upd_s]
theorem zMM.p17 (hM : zMM h M) {v : Int32} {P : List zC → Prop} (hP : ∀ h' M', zMv [17] h M h' M' → M' 17 0 = v → P h') : zopt (zpF h 108 6 17 (.int v)) P := by
  obtain ⟨m, a0, a1, a2, a4, a5, a6, a7, a9, a10, a11, a14⟩ := hM
  simp only [zpF, m, List.length_cons, List.length_nil, Nat.reduceAdd, Nat.reduceLT, and_self, List.set_cons_succ, List.set_cons_zero, ↓reduceIte, zopt_some]
  refine hP _ (aM M 17 0 v) ⟨zFr.set (by decide), ⟨zset_self m, zset_ne a0 (by decide), zset_ne a1 (by decide), zset_ne a2 (by decide), zset_ne a4 (by decide), zset_ne a5 (by decide), zset_ne a6 (by decide), zset_ne a7 (by decide), zset_ne a9 (by decide), zset_ne a10 (by decide), zset_ne a11 (by decide), zset_ne a14 (by decide)⟩, fun c hc => aM_n (fun e => by subst e; exact absurd hc (by decide))⟩ ?_
  rw [aM_s, upd_s]
theorem zMM.p18 (hM : zMM h M) {v : Int32} {P : List zC → Prop} (hP : ∀ h' M', zMv [18] h M h' M' → M' 18 0 = v → P h') : zopt (zpF h 108 6 18 (.int v)) P := by
  obtain ⟨m, a0, a1, a2, a4, a5, a6, a7, a9, a10, a11, a14⟩ := hM
  simp only [zpF, m, List.length_cons, List.length_nil, Nat.reduceAdd, Nat.reduceLT, and_self, List.set_cons_succ, List.set_cons_zero, ↓reduceIte, zopt_some]
  refine hP _ (aM M 18 0 v) ⟨zFr.set (by decide), ⟨zset_self m, zset_ne a0 (by decide), zset_ne a1 (by decide), zset_ne a2 (by decide), zset_ne a4 (by decide), zset_ne a5 (by decide), zset_ne a6 (by decide), zset_ne a7 (by decide), zset_ne a9 (by decide), zset_ne a10 (by decide), zset_ne a11 (by decide), zset_ne a14 (by decide)⟩, fun c hc => aM_n (fun e => by subst e; exact absurd hc (by decide))⟩ ?_
  rw [aM_s, upd_s]
theorem zMM.p19 (hM : zMM h M) {v : Int32} {P : List zC → Prop} (hP : ∀ h' M', zMv [19] h M h' M' → M' 19 0 = v → P h') : zopt (zpF h 108 6 19 (.int v)) P := by
  obtain ⟨m, a0, a1, a2, a4, a5, a6, a7, a9, a10, a11, a14⟩ := hM
  simp only [zpF, m, List.length_cons, List.length_nil, Nat.reduceAdd, Nat.reduceLT, and_self, List.set_cons_succ, List.set_cons_zero, ↓reduceIte, zopt_some]
  refine hP _ (aM M 19 0 v) ⟨zFr.set (by decide), ⟨zset_self m, zset_ne a0 (by decide), zset_ne a1 (by decide), zset_ne a2 (by decide), zset_ne a4 (by decide), zset_ne a5 (by decide), zset_ne a6 (by decide), zset_ne a7 (by decide), zset_ne a9 (by decide), zset_ne a10 (by decide), zset_ne a11 (by decide), zset_ne a14 (by decide)⟩, fun c hc => aM_n (fun e => by subst e; exact absurd hc (by decide))⟩ ?_
  rw [aM_s, upd_s]
theorem zMM.p20 (hM : zMM h M) {v : Int32} {P : List zC → Prop} (hP : ∀ h' M', zMv [20] h M h' M' → M' 20 0 = v → P h') : zopt (zpF h 108 6 20 (.int v)) P := by
  obtain ⟨m, a0, a1, a2, a4, a5, a6, a7, a9, a10, a11, a14⟩ := hM
  simp only [zpF, m, List.length_cons, List.length_nil, Nat.reduceAdd, Nat.reduceLT, and_self, List.set_cons_succ, List.set_cons_zero, ↓reduceIte, zopt_some]
  refine hP _ (aM M 20 0 v) ⟨zFr.set (by decide), ⟨zset_self m, zset_ne a0 (by decide), zset_ne a1 (by decide), zset_ne a2 (by decide), zset_ne a4 (by decide), zset_ne a5 (by decide), zset_ne a6 (by decide), zset_ne a7 (by decide), zset_ne a9 (by decide), zset_ne a10 (by decide), zset_ne a11 (by decide), zset_ne a14 (by decide)⟩, fun c hc => aM_n (fun e => by subst e; exact absurd hc (by decide))⟩ ?_
  rw [aM_s, upd_s]
theorem zMM.w0 (hM : zMM h M) {v s : Int32} {i y pc : Nat} {L st : List Value} (hs : s = nI i) (hi : i < 484) (hQ : ∀ h' M', zMv [0] h M h' M' → M' 0 = upd (M 0) i v → Ev y pc L st (h', z) Q) :
    zopt (zgA h 109 .int) (fun q => zinb s q.1 = true ∧ Ev y pc L st (h.set 109 (zar .int q.1 (upd q.2 s.toNatClampNeg (vp_nar .int v))), z) Q) := by
  obtain ⟨m, a0, a1, a2, a4, a5, a6, a7, a9, a10, a11, a14⟩ := hM
  subst hs
  have e1 : zinb (nI i) 484 = true := zinb_nI hi (by decide)
  have e2 : (nI i).toNatClampNeg = i := nI_clamp (by omega)
  simp only [zgA, a0, zopt_some, ↓reduceIte, e1, e2, true_and, vp_narI]
  exact hQ _ (aM M 0 i v) ⟨zFr.set (by decide), ⟨zset_ne m (by decide), zset_self a0, zset_ne a1 (by decide), zset_ne a2 (by decide), zset_ne a4 (by decide), zset_ne a5 (by decide), zset_ne a6 (by decide), zset_ne a7 (by decide), zset_ne a9 (by decide), zset_ne a10 (by decide), zset_ne a11 (by decide), zset_ne a14 (by decide)⟩, fun c hc => aM_n (fun e => by subst e; exact absurd hc (by decide))⟩ aM_s
theorem zMM.w1 (hM : zMM h M) {v s : Int32} {i y pc : Nat} {L st : List Value} (hs : s = nI i) (hi : i < 484) (hQ : ∀ h' M', zMv [1] h M h' M' → M' 1 = upd (M 1) i v → Ev y pc L st (h', z) Q) :
    zopt (zgA h 110 .int) (fun q => zinb s q.1 = true ∧ Ev y pc L st (h.set 110 (zar .int q.1 (upd q.2 s.toNatClampNeg (vp_nar .int v))), z) Q) := by
  obtain ⟨m, a0, a1, a2, a4, a5, a6, a7, a9, a10, a11, a14⟩ := hM
  subst hs
  have e1 : zinb (nI i) 484 = true := zinb_nI hi (by decide)
  have e2 : (nI i).toNatClampNeg = i := nI_clamp (by omega)
  simp only [zgA, a1, zopt_some, ↓reduceIte, e1, e2, true_and, vp_narI]
  exact hQ _ (aM M 1 i v) ⟨zFr.set (by decide), ⟨zset_ne m (by decide), zset_ne a0 (by decide), zset_self a1, zset_ne a2 (by decide), zset_ne a4 (by decide), zset_ne a5 (by decide), zset_ne a6 (by decide), zset_ne a7 (by decide), zset_ne a9 (by decide), zset_ne a10 (by decide), zset_ne a11 (by decide), zset_ne a14 (by decide)⟩, fun c hc => aM_n (fun e => by subst e; exact absurd hc (by decide))⟩ aM_s
theorem zMM.w2 (hM : zMM h M) {v s : Int32} {i y pc : Nat} {L st : List Value} (hs : s = nI i) (hi : i < 2904) (hQ : ∀ h' M', zMv [2] h M h' M' → M' 2 = upd (M 2) i v → Ev y pc L st (h', z) Q) :
    zopt (zgA h 111 .int) (fun q => zinb s q.1 = true ∧ Ev y pc L st (h.set 111 (zar .int q.1 (upd q.2 s.toNatClampNeg (vp_nar .int v))), z) Q) := by
  obtain ⟨m, a0, a1, a2, a4, a5, a6, a7, a9, a10, a11, a14⟩ := hM
  subst hs
  have e1 : zinb (nI i) 2904 = true := zinb_nI hi (by decide)
  have e2 : (nI i).toNatClampNeg = i := nI_clamp (by omega)
  simp only [zgA, a2, zopt_some, ↓reduceIte, e1, e2, true_and, vp_narI]
  exact hQ _ (aM M 2 i v) ⟨zFr.set (by decide), ⟨zset_ne m (by decide), zset_ne a0 (by decide), zset_ne a1 (by decide), zset_self a2, zset_ne a4 (by decide), zset_ne a5 (by decide), zset_ne a6 (by decide), zset_ne a7 (by decide), zset_ne a9 (by decide), zset_ne a10 (by decide), zset_ne a11 (by decide), zset_ne a14 (by decide)⟩, fun c hc => aM_n (fun e => by subst e; exact absurd hc (by decide))⟩ aM_s
theorem zMM.w4 (hM : zMM h M) {v s : Int32} {i y pc : Nat} {L st : List Value} (hs : s = nI i) (hi : i < 968) (hQ : ∀ h' M', zMv [4] h M h' M' → M' 4 = upd (M 4) i v → Ev y pc L st (h', z) Q) :
    zopt (zgA h 112 .int) (fun q => zinb s q.1 = true ∧ Ev y pc L st (h.set 112 (zar .int q.1 (upd q.2 s.toNatClampNeg (vp_nar .int v))), z) Q) := by
  obtain ⟨m, a0, a1, a2, a4, a5, a6, a7, a9, a10, a11, a14⟩ := hM
  subst hs
  have e1 : zinb (nI i) 968 = true := zinb_nI hi (by decide)
  have e2 : (nI i).toNatClampNeg = i := nI_clamp (by omega)
  simp only [zgA, a4, zopt_some, ↓reduceIte, e1, e2, true_and, vp_narI]
  exact hQ _ (aM M 4 i v) ⟨zFr.set (by decide), ⟨zset_ne m (by decide), zset_ne a0 (by decide), zset_ne a1 (by decide), zset_ne a2 (by decide), zset_self a4, zset_ne a5 (by decide), zset_ne a6 (by decide), zset_ne a7 (by decide), zset_ne a9 (by decide), zset_ne a10 (by decide), zset_ne a11 (by decide), zset_ne a14 (by decide)⟩, fun c hc => aM_n (fun e => by subst e; exact absurd hc (by decide))⟩ aM_s
theorem zMM.w5 (hM : zMM h M) {v s : Int32} {i y pc : Nat} {L st : List Value} (hs : s = nI i) (hi : i < 2) (hQ : ∀ h' M', zMv [5] h M h' M' → M' 5 = upd (M 5) i v → Ev y pc L st (h', z) Q) :
    zopt (zgA h 113 .int) (fun q => zinb s q.1 = true ∧ Ev y pc L st (h.set 113 (zar .int q.1 (upd q.2 s.toNatClampNeg (vp_nar .int v))), z) Q) := by
  obtain ⟨m, a0, a1, a2, a4, a5, a6, a7, a9, a10, a11, a14⟩ := hM
  subst hs
  have e1 : zinb (nI i) 2 = true := zinb_nI hi (by decide)
  have e2 : (nI i).toNatClampNeg = i := nI_clamp (by omega)
  simp only [zgA, a5, zopt_some, ↓reduceIte, e1, e2, true_and, vp_narI]
  exact hQ _ (aM M 5 i v) ⟨zFr.set (by decide), ⟨zset_ne m (by decide), zset_ne a0 (by decide), zset_ne a1 (by decide), zset_ne a2 (by decide), zset_ne a4 (by decide), zset_self a5, zset_ne a6 (by decide), zset_ne a7 (by decide), zset_ne a9 (by decide), zset_ne a10 (by decide), zset_ne a11 (by decide), zset_ne a14 (by decide)⟩, fun c hc => aM_n (fun e => by subst e; exact absurd hc (by decide))⟩ aM_s
theorem zMM.w6 (hM : zMM h M) {v s : Int32} {i y pc : Nat} {L st : List Value} (hs : s = nI i) (hi : i < 12) (hQ : ∀ h' M', zMv [6] h M h' M' → M' 6 = upd (M 6) i v → Ev y pc L st (h', z) Q) :
    zopt (zgA h 114 .int) (fun q => zinb s q.1 = true ∧ Ev y pc L st (h.set 114 (zar .int q.1 (upd q.2 s.toNatClampNeg (vp_nar .int v))), z) Q) := by
  obtain ⟨m, a0, a1, a2, a4, a5, a6, a7, a9, a10, a11, a14⟩ := hM
  subst hs
  have e1 : zinb (nI i) 12 = true := zinb_nI hi (by decide)
  have e2 : (nI i).toNatClampNeg = i := nI_clamp (by omega)
  simp only [zgA, a6, zopt_some, ↓reduceIte, e1, e2, true_and, vp_narI]
  exact hQ _ (aM M 6 i v) ⟨zFr.set (by decide), ⟨zset_ne m (by decide), zset_ne a0 (by decide), zset_ne a1 (by decide), zset_ne a2 (by decide), zset_ne a4 (by decide), zset_ne a5 (by decide), zset_self a6, zset_ne a7 (by decide), zset_ne a9 (by decide), zset_ne a10 (by decide), zset_ne a11 (by decide), zset_ne a14 (by decide)⟩, fun c hc => aM_n (fun e => by subst e; exact absurd hc (by decide))⟩ aM_s
theorem zMM.w7 (hM : zMM h M) {v s : Int32} {i y pc : Nat} {L st : List Value} (hs : s = nI i) (hi : i < 3) (hQ : ∀ h' M', zMv [7] h M h' M' → M' 7 = upd (M 7) i v → Ev y pc L st (h', z) Q) :
    zopt (zgA h 115 .int) (fun q => zinb s q.1 = true ∧ Ev y pc L st (h.set 115 (zar .int q.1 (upd q.2 s.toNatClampNeg (vp_nar .int v))), z) Q) := by
  obtain ⟨m, a0, a1, a2, a4, a5, a6, a7, a9, a10, a11, a14⟩ := hM
  subst hs
  have e1 : zinb (nI i) 3 = true := zinb_nI hi (by decide)
  have e2 : (nI i).toNatClampNeg = i := nI_clamp (by omega)
  simp only [zgA, a7, zopt_some, ↓reduceIte, e1, e2, true_and, vp_narI]
  exact hQ _ (aM M 7 i v) ⟨zFr.set (by decide), ⟨zset_ne m (by decide), zset_ne a0 (by decide), zset_ne a1 (by decide), zset_ne a2 (by decide), zset_ne a4 (by decide), zset_ne a5 (by decide), zset_ne a6 (by decide), zset_self a7, zset_ne a9 (by decide), zset_ne a10 (by decide), zset_ne a11 (by decide), zset_ne a14 (by decide)⟩, fun c hc => aM_n (fun e => by subst e; exact absurd hc (by decide))⟩ aM_s
theorem zMM.w9 (hM : zMM h M) {v s : Int32} {i y pc : Nat} {L st : List Value} (hs : s = nI i) (hi : i < 40) (hQ : ∀ h' M', zMv [9] h M h' M' → M' 9 = upd (M 9) i v → Ev y pc L st (h', z) Q) :
    zopt (zgA h 116 .int) (fun q => zinb s q.1 = true ∧ Ev y pc L st (h.set 116 (zar .int q.1 (upd q.2 s.toNatClampNeg (vp_nar .int v))), z) Q) := by
  obtain ⟨m, a0, a1, a2, a4, a5, a6, a7, a9, a10, a11, a14⟩ := hM
  subst hs
  have e1 : zinb (nI i) 40 = true := zinb_nI hi (by decide)
  have e2 : (nI i).toNatClampNeg = i := nI_clamp (by omega)
  simp only [zgA, a9, zopt_some, ↓reduceIte, e1, e2, true_and, vp_narI]
  exact hQ _ (aM M 9 i v) ⟨zFr.set (by decide), ⟨zset_ne m (by decide), zset_ne a0 (by decide), zset_ne a1 (by decide), zset_ne a2 (by decide), zset_ne a4 (by decide), zset_ne a5 (by decide), zset_ne a6 (by decide), zset_ne a7 (by decide), zset_self a9, zset_ne a10 (by decide), zset_ne a11 (by decide), zset_ne a14 (by decide)⟩, fun c hc => aM_n (fun e => by subst e; exact absurd hc (by decide))⟩ aM_s
theorem zMM.w10 (hM : zMM h M) {v s : Int32} {i y pc : Nat} {L st : List Value} (hs : s = nI i) (hi : i < 12) (hQ : ∀ h' M', zMv [10] h M h' M' → M' 10 = upd (M 10) i v → Ev y pc L st (h', z) Q) :
    zopt (zgA h 117 .int) (fun q => zinb s q.1 = true ∧ Ev y pc L st (h.set 117 (zar .int q.1 (upd q.2 s.toNatClampNeg (vp_nar .int v))), z) Q) := by
  obtain ⟨m, a0, a1, a2, a4, a5, a6, a7, a9, a10, a11, a14⟩ := hM
  subst hs
  have e1 : zinb (nI i) 12 = true := zinb_nI hi (by decide)
  have e2 : (nI i).toNatClampNeg = i := nI_clamp (by omega)
  simp only [zgA, a10, zopt_some, ↓reduceIte, e1, e2, true_and, vp_narI]
  exact hQ _ (aM M 10 i v) ⟨zFr.set (by decide), ⟨zset_ne m (by decide), zset_ne a0 (by decide), zset_ne a1 (by decide), zset_ne a2 (by decide), zset_ne a4 (by decide), zset_ne a5 (by decide), zset_ne a6 (by decide), zset_ne a7 (by decide), zset_ne a9 (by decide), zset_self a10, zset_ne a11 (by decide), zset_ne a14 (by decide)⟩, fun c hc => aM_n (fun e => by subst e; exact absurd hc (by decide))⟩ aM_s
theorem zMM.w11 (hM : zMM h M) {v s : Int32} {i y pc : Nat} {L st : List Value} (hs : s = nI i) (hi : i < 12) (hQ : ∀ h' M', zMv [11] h M h' M' → M' 11 = upd (M 11) i v → Ev y pc L st (h', z) Q) :
    zopt (zgA h 118 .int) (fun q => zinb s q.1 = true ∧ Ev y pc L st (h.set 118 (zar .int q.1 (upd q.2 s.toNatClampNeg (vp_nar .int v))), z) Q) := by
  obtain ⟨m, a0, a1, a2, a4, a5, a6, a7, a9, a10, a11, a14⟩ := hM
  subst hs
  have e1 : zinb (nI i) 12 = true := zinb_nI hi (by decide)
  have e2 : (nI i).toNatClampNeg = i := nI_clamp (by omega)
  simp only [zgA, a11, zopt_some, ↓reduceIte, e1, e2, true_and, vp_narI]
  exact hQ _ (aM M 11 i v) ⟨zFr.set (by decide), ⟨zset_ne m (by decide), zset_ne a0 (by decide), zset_ne a1 (by decide), zset_ne a2 (by decide), zset_ne a4 (by decide), zset_ne a5 (by decide), zset_ne a6 (by decide), zset_ne a7 (by decide), zset_ne a9 (by decide), zset_ne a10 (by decide), zset_self a11, zset_ne a14 (by decide)⟩, fun c hc => aM_n (fun e => by subst e; exact absurd hc (by decide))⟩ aM_s
theorem zMM.w14 (hM : zMM h M) {v s : Int32} {i y pc : Nat} {L st : List Value} (hs : s = nI i) (hi : i < 60) (hQ : ∀ h' M', zMv [14] h M h' M' → M' 14 = upd (M 14) i v → Ev y pc L st (h', z) Q) :
    zopt (zgA h 119 .int) (fun q => zinb s q.1 = true ∧ Ev y pc L st (h.set 119 (zar .int q.1 (upd q.2 s.toNatClampNeg (vp_nar .int v))), z) Q) := by
  obtain ⟨m, a0, a1, a2, a4, a5, a6, a7, a9, a10, a11, a14⟩ := hM
  subst hs
  have e1 : zinb (nI i) 60 = true := zinb_nI hi (by decide)
  have e2 : (nI i).toNatClampNeg = i := nI_clamp (by omega)
  simp only [zgA, a14, zopt_some, ↓reduceIte, e1, e2, true_and, vp_narI]
  exact hQ _ (aM M 14 i v) ⟨zFr.set (by decide), ⟨zset_ne m (by decide), zset_ne a0 (by decide), zset_ne a1 (by decide), zset_ne a2 (by decide), zset_ne a4 (by decide), zset_ne a5 (by decide), zset_ne a6 (by decide), zset_ne a7 (by decide), zset_ne a9 (by decide), zset_ne a10 (by decide), zset_ne a11 (by decide), zset_self a14⟩, fun c hc => aM_n (fun e => by subst e; exact absurd hc (by decide))⟩ aM_s
end ZM
theorem k5 (s : Nat) : (5 : Int32) + nI s = nI (5 + s) := by rw [show (5 : Int32) = nI 5 from rfl, nI_add]
theorem k17 (s : Nat) : (17 : Int32) + nI s = nI (17 + s) := by rw [show (17 : Int32) = nI 17 from rfl, nI_add]
theorem k29 (s : Nat) : (29 : Int32) + nI s = nI (29 + s) := by rw [show (29 : Int32) = nI 29 from rfl, nI_add]
theorem k41 (s : Nat) : (41 : Int32) + nI s = nI (41 + s) := by rw [show (41 : Int32) = nI 41 from rfl, nI_add]
theorem k81 (s : Nat) : (81 : Int32) + nI s = nI (81 + s) := by rw [show (81 : Int32) = nI 81 from rfl, nI_add]
theorem k121 (s : Nat) : (121 : Int32) + nI s = nI (121 + s) := by rw [show (121 : Int32) = nI 121 from rfl, nI_add]
theorem j484_0 : zinb (0 : Int32) 484 = true := by decide
theorem cl_0 : (0 : Int32).toNatClampNeg = 0 := by decide
theorem j484_1 : zinb (1 : Int32) 484 = true := by decide
theorem cl_1 : (1 : Int32).toNatClampNeg = 1 := by decide
theorem j484_2 : zinb (2 : Int32) 484 = true := by decide
theorem cl_2 : (2 : Int32).toNatClampNeg = 2 := by decide
theorem j484_3 : zinb (3 : Int32) 484 = true := by decide
theorem cl_3 : (3 : Int32).toNatClampNeg = 3 := by decide
theorem j484_4 : zinb (4 : Int32) 484 = true := by decide
theorem cl_4 : (4 : Int32).toNatClampNeg = 4 := by decide
theorem zi_lt {i n : Nat} (h : i < n) (hn : n < 2 ^ 31) : zinb (nI i) n = true := zinb_nI h hn
theorem cl_lt {i : Nat} (h : i < 2 ^ 31) : (nI i).toNatClampNeg = i := nI_clamp h
end

