/-! WHAT THE SMALL MACHINE DOES, THE GIVEN ONE DOES: each instruction -/
section
set_option maxRecDepth 100000
def zsh (B b : Nat) : Value → Value
  | .ref k => .ref (B + k)
  | .retAddr 0 => .ref b
  | v => v
theorem zsh_cat (B b : Nat) (v : Value) : (zsh B b v).category = v.category := by
  cases v with
  | retAddr k => cases k <;> rfl
  | _ => rfl
theorem zsh_sum (B b : Nat) (st : List Value) : ((st.map (zsh B b)).map fun v => v.category) = st.map fun v => v.category := by
  rw [List.map_map]
  exact List.map_congr_left (fun v _ => zsh_cat B b v)
abbrev zqT : FieldType := .object "StrawDraws$State"
def zenc (B b : Nat) (cy : FieldType → ClassId) : zC → va_E
  | .inl q => .inr (q.1, q.2.map (zsh B b))
  | .inr (.inl q) => .inl (cy q.1, q.2.1, .inl q.2.2)
  | .inr (.inr q) => .inl (cy zqT, q.1, .inr (.inr (.inr (.inr (fun j => (q.2 j).map (fun k => B + k))))))
def zW (B b : Nat) (cy : FieldType → ClassId) (h : List zC) : va_W := h.zipIdx.map (fun q => (B + q.2, zenc B b cy q.1))
theorem zW_at (B b : Nat) (cy : FieldType → ClassId) (h : List zC) (k : Nat) : (zW B b cy h)[k]? = (h[k]?).map (fun c => (B + k, zenc B b cy c)) := by
  simp only [zW, List.getElem?_map, List.getElem?_zipIdx, Option.map_map]
  cases h[k]? <;> simp
theorem zW_get {B b : Nat} {cy : FieldType → ClassId} {h : List zC} {k : Nat} {c : zC} (e : h[k]? = some c) : (zW B b cy h)[k]? = some (B + k, zenc B b cy c) := by
  rw [zW_at, e]; rfl
theorem zW_len (B b : Nat) (cy : FieldType → ClassId) (h : List zC) : (zW B b cy h).length = h.length := by simp [zW]
theorem zW_set (B b : Nat) (cy : FieldType → ClassId) (h : List zC) (k : Nat) (c : zC) : (zW B b cy h).set k (B + k, zenc B b cy c) = zW B b cy (h.set k c) := by
  apply List.ext_getElem?
  intro i
  rw [List.getElem?_set, zW_at, zW_at, List.getElem?_set, zW_len]
  by_cases hi : k = i
  · subst hi
    by_cases hl : k < h.length <;> simp [hl]
  · simp [hi]
theorem zW_push (B b : Nat) (cy : FieldType → ClassId) (h : List zC) (c : zC) : zW B b cy (h ++ [c]) = zW B b cy h ++ [(B + h.length, zenc B b cy c)] := by
  simp [zW, List.zipIdx_append]
theorem zW_D (B b : Nat) (cy : FieldType → ClassId) (h : List zC) : va_D (fun q => B ≤ q) (zW B b cy h) := by
  refine ⟨fun i j p q hi hj e => ?_, fun k q hk => ?_⟩
  · rw [zW_at] at hi hj
    obtain ⟨c1, -, e1⟩ := Option.map_eq_some_iff.mp hi
    obtain ⟨c2, -, e2⟩ := Option.map_eq_some_iff.mp hj
    rw [← e1, ← e2] at e
    exact Nat.add_left_cancel e
  · rw [zW_at] at hk
    obtain ⟨c1, -, e1⟩ := Option.map_eq_some_iff.mp hk
    rw [← e1]
    exact Nat.le_add_right B k
def ztys (cy : FieldType → ClassId) : List (ClassId × FieldType) := [(cy .int, .int), (cy .boolean, .boolean), (cy .char, .char), (cy zqT, zqT)]
def zKn (D : va_G) (cy : FieldType → ClassId) (U : State) : Prop := va_K D zcl (ztys cy) U ∧ (∀ w ∈ zNst, va_Nw w U) ∧ va_AO "StrawDraws$State" U
def zRep (D : va_G) (cy : FieldType → ClassId) (B b : Nat) (U : State) (X : zX) (H : Heap) : Prop := H.size = B + X.1.length ∧ va_P D zcl (zW B b cy X.1) H ∧ b < B ∧ va_X b X.2.2.1 X.2.2.2 U H
def zok (v : Value) : Bool := match v with
  | .retAddr (_ + 1) => false
  | _ => true
def zLs (B b : Nat) (L : List Value) (ls : Array Slot) : Prop := ls.size = L.length ∧ lv_wf ls ∧ ∀ (i : Nat) (v : Value), L[i]? = some v → zok v = true → ls[i]? = some (Slot.val (zsh B b v))
def zCtx (p : Program) (R : Room) (s : State) (m : MethodId) (args : Array Value) (meth : Method) (c : Code) (y : Nat) (D : va_G) (cy : FieldType → ClassId) (kc ks : Nat) : Prop :=
  p.tables.exec = Jvm.exec ∧ c.code = zcode y ∧ meth.sig.returnType = zret y ∧ c.maxLocals = zmaxL y ∧ s.vm.findClass (zOn (zown y)) = some m.cls ∧ (∀ w ∈ zTb, w.before args s = true) ∧ zKn D cy s ∧ meth.locks = false ∧ ((zname y).name = "<init>" → meth.name = "<init>") ∧ zfr y ≤ R.frames ∧ zlo y ≤ R.locals ∧ kc ≤ R.cells ∧ ks ≤ R.slots
def zGo (p : Program) (l : Launch) (e : Env) (R : Room) (s : State) (m : MethodId) (args : Array Value) (below : List Frame) (meth : Method) (c : Code) (Q : State → Prop) (D : va_G) (cy : FieldType → ClassId) (B b : Nat) (H0 : Heap) (X' : zX) (kc ks : Nat) (pc : Nat) (L st : List Value) (X : zX) : Prop :=
  ∀ (H : Heap) (ls : Array Slot) (locs : List Loc) (cells slots : Nat), zRep D cy B b s X H → va_S (fun q => B ≤ q) H0 H locs → zLs B b L ls → cells + X'.1.length = kc + X.1.length → slots + X'.2.1 = ks + X.2.1 →
    W p l e R s m args below meth c H locs cells slots Q (F0 m pc ls (st.map (zsh B b)))
section ZG
variable {p : Program} {l : Launch} {e : Env} {R : Room} {s : State} {m : MethodId} {args : Array Value} {below : List Frame} {meth : Method} {c : Code} {Q : State → Prop} {y : Nat} {D : va_G} {cy : FieldType → ClassId} {B b : Nat} {H0 : Heap} {X' : zX} {kc ks : Nat}
variable {pc len : Nat} {L st : List Value} {X : zX} {q : Nat × List Value × List Value × zX}
/-- the listed locals, for the kit's rows -/
def zprs (B b : Nat) (L : List Value) : List (Nat × Value) := (L.zipIdx.filter (fun q => zok q.1)).map (fun q => (q.2, zsh B b q.1))
theorem zprs_mem {B b : Nat} {L : List Value} {i : Nat} {w : Value} : (i, w) ∈ zprs B b L ↔ ∃ v, L[i]? = some v ∧ zok v = true ∧ w = zsh B b v := by
  simp only [zprs, List.mem_map, List.mem_filter]
  constructor
  · rintro ⟨q, ⟨h1, h2⟩, h3⟩
    obtain ⟨v, j⟩ := q
    have h4 := List.mem_zipIdx_iff_getElem?.mp h1
    cases h3
    exact ⟨v, h4, h2, rfl⟩
  · rintro ⟨v, h1, h2, rfl⟩
    exact ⟨(v, i), ⟨List.mem_zipIdx_iff_getElem?.mpr h1, h2⟩, rfl⟩
theorem zLs_has {ls : Array Slot} (h : zLs B b L ls) : lv_has ls L.length (zprs B b L) := ⟨h.1, h.2.1, fun q hq => by
  obtain ⟨i, w⟩ := q
  obtain ⟨v, h1, h2, h3⟩ := zprs_mem.mp hq
  rw [h3]
  exact h.2.2 i v h1 h2⟩
theorem zLs_at {ls : Array Slot} (h : zLs B b L ls) {i : Nat} {v : Value} (hv : L[i]? = some v) (hk : zok v = true) : ls[i]? = some (Slot.val (zsh B b v)) := h.2.2 i v hv hk
/-- a value of one word was stored -/
theorem zLs_st1 {ls' : Array Slot} {k : Nat} {v : Value} {L2 : List Value} (hn : k < L.length) (hnl : znl L k = true) (h : lv_has ls' L.length ((k, zsh B b v) :: (zprs B b L).filter (fun q => !(q.1 == k) && !(q.1 + 1 == k && q.2.category == 2)))) (h2 : L2 = L.set k v) : zLs B b L2 ls' := by
  subst h2
  refine ⟨by rw [h.1, List.length_set], h.2.1, fun i w hi hk => ?_⟩
  by_cases hik : k = i
  · subst hik
    rw [List.getElem?_set_self hn] at hi
    cases hi
    exact h.2.2 (k, zsh B b v) List.mem_cons_self
  · rw [List.getElem?_set_ne hik] at hi
    refine h.2.2 (i, zsh B b w) (List.mem_cons_of_mem _ (List.mem_filter.mpr ⟨zprs_mem.mpr ⟨w, hi, hk, rfl⟩, ?_⟩))
    have hne : (i == k) = false := by simp [Ne.symm hik]
    simp only [hne, Bool.not_false, Bool.true_and, Bool.not_eq_true', Bool.and_eq_false_iff]
    by_cases hi1 : i + 1 = k
    · right
      subst hi1
      unfold znl at hnl
      dsimp only at hnl
      rw [hi] at hnl
      rw [zsh_cat]
      cases w <;> first | rfl | (simp at hnl) | (simp [zok] at hk)
      all_goals skip
    · left
      simp [hi1]
/-- one of two words was -/
theorem zLs_st2 {ls' : Array Slot} {k : Nat} {v : Value} {L2 : List Value} (hn : k + 1 < L.length) (hnl : znl L k = true) (h : lv_has ls' L.length ((k, zsh B b v) :: (zprs B b L).filter (fun q => !(q.1 == k) && (!(q.1 == k + 1) && !(q.1 + 1 == k && q.2.category == 2))))) (h2 : L2 = (L.set k v).set (k + 1) zU) : zLs B b L2 ls' := by
  subst h2
  refine ⟨by rw [h.1, List.length_set, List.length_set], h.2.1, fun i w hi hk => ?_⟩
  by_cases hik1 : k + 1 = i
  · subst hik1
    rw [List.getElem?_set_self (by rw [List.length_set]; exact hn)] at hi
    cases hi
    cases hk
  · rw [List.getElem?_set_ne hik1] at hi
    by_cases hik : k = i
    · subst hik
      rw [List.getElem?_set_self (by omega)] at hi
      cases hi
      exact h.2.2 (k, zsh B b v) List.mem_cons_self
    · rw [List.getElem?_set_ne hik] at hi
      refine h.2.2 (i, zsh B b w) (List.mem_cons_of_mem _ (List.mem_filter.mpr ⟨zprs_mem.mpr ⟨w, hi, hk, rfl⟩, ?_⟩))
      have hne : (i == k) = false := by simp [Ne.symm hik]
      have hne1 : (i == k + 1) = false := by simp [Ne.symm hik1]
      simp only [hne, hne1, Bool.not_false, Bool.true_and, Bool.not_eq_true', Bool.and_eq_false_iff]
      by_cases hi1 : i + 1 = k
      · right
        subst hi1
        unfold znl at hnl
        dsimp only at hnl
        rw [hi] at hnl
        rw [zsh_cat]
        cases w <;> first | rfl | (simp at hnl) | (simp [zok] at hk)
        all_goals skip
      · left
        simp [hi1]

theorem zg_iconst {n : Int} (C : zCtx p R s m args meth c y D cy kc ks) (hd : decode (zcode y) pc = .ok (.iconst n, len)) (h : zins y pc (.iconst n) len L st X = some (.inl q)) (k : zGo p l e R s m args below meth c Q D cy B b H0 X' kc ks q.1 q.2.1 q.2.2.1 q.2.2.2) : zGo p l e R s m args below meth c Q D cy B b H0 X' kc ks pc L st X := by
  simp only [zins] at h
  split at h
  next hl =>
    subst hl
    cases h
    intro H ls locs cells slots hR hS hL hc hs
    exact lv_iconst C.1 C.2.1 hd rfl (k H ls locs cells slots hR hS hL hc hs)
  next => cases h

theorem zg_bipush {n : Int} (C : zCtx p R s m args meth c y D cy kc ks) (hd : decode (zcode y) pc = .ok (.bipush n, len)) (h : zins y pc (.bipush n) len L st X = some (.inl q)) (k : zGo p l e R s m args below meth c Q D cy B b H0 X' kc ks q.1 q.2.1 q.2.2.1 q.2.2.2) : zGo p l e R s m args below meth c Q D cy B b H0 X' kc ks pc L st X := by
  simp only [zins] at h
  split at h
  next hl =>
    subst hl
    cases h
    intro H ls locs cells slots hR hS hL hc hs
    exact lv_bipush C.1 C.2.1 hd rfl (k H ls locs cells slots hR hS hL hc hs)
  next => cases h

theorem zg_sipush {n : Int} (C : zCtx p R s m args meth c y D cy kc ks) (hd : decode (zcode y) pc = .ok (.sipush n, len)) (h : zins y pc (.sipush n) len L st X = some (.inl q)) (k : zGo p l e R s m args below meth c Q D cy B b H0 X' kc ks q.1 q.2.1 q.2.2.1 q.2.2.2) : zGo p l e R s m args below meth c Q D cy B b H0 X' kc ks pc L st X := by
  simp only [zins] at h
  split at h
  next hl =>
    subst hl
    cases h
    intro H ls locs cells slots hR hS hL hc hs
    exact lv_sipush C.1 C.2.1 hd rfl (k H ls locs cells slots hR hS hL hc hs)
  next => cases h

theorem zg_lconst {n : Fin 2} (C : zCtx p R s m args meth c y D cy kc ks) (hd : decode (zcode y) pc = .ok (.lconst n, len)) (h : zins y pc (.lconst n) len L st X = some (.inl q)) (k : zGo p l e R s m args below meth c Q D cy B b H0 X' kc ks q.1 q.2.1 q.2.2.1 q.2.2.2) : zGo p l e R s m args below meth c Q D cy B b H0 X' kc ks pc L st X := by
  simp only [zins] at h
  split at h
  next hl =>
    subst hl
    cases h
    intro H ls locs cells slots hR hS hL hc hs
    exact lv_lconst C.1 C.2.1 hd rfl (k H ls locs cells slots hR hS hL hc hs)
  next => cases h

theorem zg_iadd (C : zCtx p R s m args meth c y D cy kc ks) (hd : decode (zcode y) pc = .ok (.iadd, len)) (h : zins y pc (.iadd) len L st X = some (.inl q)) (k : zGo p l e R s m args below meth c Q D cy B b H0 X' kc ks q.1 q.2.1 q.2.2.1 q.2.2.2) : zGo p l e R s m args below meth c Q D cy B b H0 X' kc ks pc L st X := by
  simp only [zins] at h
  split at h
  next hl =>
    subst hl
    unfold zb2 at h
    split at h
    next yy xx t =>
      cases h
      intro H ls locs cells slots hR hS hL hc hs
      exact lv_iadd C.1 C.2.1 hd (k H ls locs cells slots hR hS hL hc hs)
    next => cases h
  next => cases h

theorem zg_isub (C : zCtx p R s m args meth c y D cy kc ks) (hd : decode (zcode y) pc = .ok (.isub, len)) (h : zins y pc (.isub) len L st X = some (.inl q)) (k : zGo p l e R s m args below meth c Q D cy B b H0 X' kc ks q.1 q.2.1 q.2.2.1 q.2.2.2) : zGo p l e R s m args below meth c Q D cy B b H0 X' kc ks pc L st X := by
  simp only [zins] at h
  split at h
  next hl =>
    subst hl
    unfold zb2 at h
    split at h
    next yy xx t =>
      cases h
      intro H ls locs cells slots hR hS hL hc hs
      exact lv_isub C.1 C.2.1 hd (k H ls locs cells slots hR hS hL hc hs)
    next => cases h
  next => cases h

theorem zg_imul (C : zCtx p R s m args meth c y D cy kc ks) (hd : decode (zcode y) pc = .ok (.imul, len)) (h : zins y pc (.imul) len L st X = some (.inl q)) (k : zGo p l e R s m args below meth c Q D cy B b H0 X' kc ks q.1 q.2.1 q.2.2.1 q.2.2.2) : zGo p l e R s m args below meth c Q D cy B b H0 X' kc ks pc L st X := by
  simp only [zins] at h
  split at h
  next hl =>
    subst hl
    unfold zb2 at h
    split at h
    next yy xx t =>
      cases h
      intro H ls locs cells slots hR hS hL hc hs
      exact lv_imul C.1 C.2.1 hd (k H ls locs cells slots hR hS hL hc hs)
    next => cases h
  next => cases h

theorem zg_iand (C : zCtx p R s m args meth c y D cy kc ks) (hd : decode (zcode y) pc = .ok (.iand, len)) (h : zins y pc (.iand) len L st X = some (.inl q)) (k : zGo p l e R s m args below meth c Q D cy B b H0 X' kc ks q.1 q.2.1 q.2.2.1 q.2.2.2) : zGo p l e R s m args below meth c Q D cy B b H0 X' kc ks pc L st X := by
  simp only [zins] at h
  split at h
  next hl =>
    subst hl
    unfold zb2 at h
    split at h
    next yy xx t =>
      cases h
      intro H ls locs cells slots hR hS hL hc hs
      exact lv_iand C.1 C.2.1 hd (k H ls locs cells slots hR hS hL hc hs)
    next => cases h
  next => cases h

theorem zg_ior (C : zCtx p R s m args meth c y D cy kc ks) (hd : decode (zcode y) pc = .ok (.ior, len)) (h : zins y pc (.ior) len L st X = some (.inl q)) (k : zGo p l e R s m args below meth c Q D cy B b H0 X' kc ks q.1 q.2.1 q.2.2.1 q.2.2.2) : zGo p l e R s m args below meth c Q D cy B b H0 X' kc ks pc L st X := by
  simp only [zins] at h
  split at h
  next hl =>
    subst hl
    unfold zb2 at h
    split at h
    next yy xx t =>
      cases h
      intro H ls locs cells slots hR hS hL hc hs
      exact lv_ior C.1 C.2.1 hd (k H ls locs cells slots hR hS hL hc hs)
    next => cases h
  next => cases h

theorem zg_ixor (C : zCtx p R s m args meth c y D cy kc ks) (hd : decode (zcode y) pc = .ok (.ixor, len)) (h : zins y pc (.ixor) len L st X = some (.inl q)) (k : zGo p l e R s m args below meth c Q D cy B b H0 X' kc ks q.1 q.2.1 q.2.2.1 q.2.2.2) : zGo p l e R s m args below meth c Q D cy B b H0 X' kc ks pc L st X := by
  simp only [zins] at h
  split at h
  next hl =>
    subst hl
    unfold zb2 at h
    split at h
    next yy xx t =>
      cases h
      intro H ls locs cells slots hR hS hL hc hs
      exact lv_ixor C.1 C.2.1 hd (k H ls locs cells slots hR hS hL hc hs)
    next => cases h
  next => cases h

theorem zg_ishl (C : zCtx p R s m args meth c y D cy kc ks) (hd : decode (zcode y) pc = .ok (.ishl, len)) (h : zins y pc (.ishl) len L st X = some (.inl q)) (k : zGo p l e R s m args below meth c Q D cy B b H0 X' kc ks q.1 q.2.1 q.2.2.1 q.2.2.2) : zGo p l e R s m args below meth c Q D cy B b H0 X' kc ks pc L st X := by
  simp only [zins] at h
  split at h
  next hl =>
    subst hl
    unfold zb2 at h
    split at h
    next yy xx t =>
      cases h
      intro H ls locs cells slots hR hS hL hc hs
      exact lv_ishl C.1 C.2.1 hd (k H ls locs cells slots hR hS hL hc hs)
    next => cases h
  next => cases h

theorem zg_ishr (C : zCtx p R s m args meth c y D cy kc ks) (hd : decode (zcode y) pc = .ok (.ishr, len)) (h : zins y pc (.ishr) len L st X = some (.inl q)) (k : zGo p l e R s m args below meth c Q D cy B b H0 X' kc ks q.1 q.2.1 q.2.2.1 q.2.2.2) : zGo p l e R s m args below meth c Q D cy B b H0 X' kc ks pc L st X := by
  simp only [zins] at h
  split at h
  next hl =>
    subst hl
    unfold zb2 at h
    split at h
    next yy xx t =>
      cases h
      intro H ls locs cells slots hR hS hL hc hs
      exact lv_ishr C.1 C.2.1 hd (k H ls locs cells slots hR hS hL hc hs)
    next => cases h
  next => cases h

theorem zg_iushr (C : zCtx p R s m args meth c y D cy kc ks) (hd : decode (zcode y) pc = .ok (.iushr, len)) (h : zins y pc (.iushr) len L st X = some (.inl q)) (k : zGo p l e R s m args below meth c Q D cy B b H0 X' kc ks q.1 q.2.1 q.2.2.1 q.2.2.2) : zGo p l e R s m args below meth c Q D cy B b H0 X' kc ks pc L st X := by
  simp only [zins] at h
  split at h
  next hl =>
    subst hl
    unfold zb2 at h
    split at h
    next yy xx t =>
      cases h
      intro H ls locs cells slots hR hS hL hc hs
      exact lv_iushr C.1 C.2.1 hd rfl (k H ls locs cells slots hR hS hL hc hs)
    next => cases h
  next => cases h

theorem zg_idiv (C : zCtx p R s m args meth c y D cy kc ks) (hd : decode (zcode y) pc = .ok (.idiv, len)) (h : zins y pc (.idiv) len L st X = some (.inl q)) (k : zGo p l e R s m args below meth c Q D cy B b H0 X' kc ks q.1 q.2.1 q.2.2.1 q.2.2.2) : zGo p l e R s m args below meth c Q D cy B b H0 X' kc ks pc L st X := by
  simp only [zins] at h
  split at h
  next hl =>
    subst hl
    unfold zb2z at h
    split at h
    next yy xx t =>
      split at h
      next => cases h
      next hne =>
        cases h
        intro H ls locs cells slots hR hS hL hc hs
        exact lv_idiv C.1 C.2.1 hd hne (k H ls locs cells slots hR hS hL hc hs)
    next => cases h
  next => cases h

theorem zg_irem (C : zCtx p R s m args meth c y D cy kc ks) (hd : decode (zcode y) pc = .ok (.irem, len)) (h : zins y pc (.irem) len L st X = some (.inl q)) (k : zGo p l e R s m args below meth c Q D cy B b H0 X' kc ks q.1 q.2.1 q.2.2.1 q.2.2.2) : zGo p l e R s m args below meth c Q D cy B b H0 X' kc ks pc L st X := by
  simp only [zins] at h
  split at h
  next hl =>
    subst hl
    unfold zb2z at h
    split at h
    next yy xx t =>
      split at h
      next => cases h
      next hne =>
        cases h
        intro H ls locs cells slots hR hS hL hc hs
        exact lv_irem C.1 C.2.1 hd hne (k H ls locs cells slots hR hS hL hc hs)
    next => cases h
  next => cases h

theorem zg_ladd (C : zCtx p R s m args meth c y D cy kc ks) (hd : decode (zcode y) pc = .ok (.ladd, len)) (h : zins y pc (.ladd) len L st X = some (.inl q)) (k : zGo p l e R s m args below meth c Q D cy B b H0 X' kc ks q.1 q.2.1 q.2.2.1 q.2.2.2) : zGo p l e R s m args below meth c Q D cy B b H0 X' kc ks pc L st X := by
  simp only [zins] at h
  split at h
  next hl =>
    subst hl
    unfold zj2 at h
    split at h
    next yy xx t =>
      cases h
      intro H ls locs cells slots hR hS hL hc hs
      exact lv_ladd C.1 C.2.1 hd (k H ls locs cells slots hR hS hL hc hs)
    next => cases h
  next => cases h

theorem zg_lsub (C : zCtx p R s m args meth c y D cy kc ks) (hd : decode (zcode y) pc = .ok (.lsub, len)) (h : zins y pc (.lsub) len L st X = some (.inl q)) (k : zGo p l e R s m args below meth c Q D cy B b H0 X' kc ks q.1 q.2.1 q.2.2.1 q.2.2.2) : zGo p l e R s m args below meth c Q D cy B b H0 X' kc ks pc L st X := by
  simp only [zins] at h
  split at h
  next hl =>
    subst hl
    unfold zj2 at h
    split at h
    next yy xx t =>
      cases h
      intro H ls locs cells slots hR hS hL hc hs
      exact lv_lsub C.1 C.2.1 hd (k H ls locs cells slots hR hS hL hc hs)
    next => cases h
  next => cases h

theorem zg_lmul (C : zCtx p R s m args meth c y D cy kc ks) (hd : decode (zcode y) pc = .ok (.lmul, len)) (h : zins y pc (.lmul) len L st X = some (.inl q)) (k : zGo p l e R s m args below meth c Q D cy B b H0 X' kc ks q.1 q.2.1 q.2.2.1 q.2.2.2) : zGo p l e R s m args below meth c Q D cy B b H0 X' kc ks pc L st X := by
  simp only [zins] at h
  split at h
  next hl =>
    subst hl
    unfold zj2 at h
    split at h
    next yy xx t =>
      cases h
      intro H ls locs cells slots hR hS hL hc hs
      exact lv_lmul C.1 C.2.1 hd (k H ls locs cells slots hR hS hL hc hs)
    next => cases h
  next => cases h

theorem zg_land (C : zCtx p R s m args meth c y D cy kc ks) (hd : decode (zcode y) pc = .ok (.land, len)) (h : zins y pc (.land) len L st X = some (.inl q)) (k : zGo p l e R s m args below meth c Q D cy B b H0 X' kc ks q.1 q.2.1 q.2.2.1 q.2.2.2) : zGo p l e R s m args below meth c Q D cy B b H0 X' kc ks pc L st X := by
  simp only [zins] at h
  split at h
  next hl =>
    subst hl
    unfold zj2 at h
    split at h
    next yy xx t =>
      cases h
      intro H ls locs cells slots hR hS hL hc hs
      exact lv_land C.1 C.2.1 hd (k H ls locs cells slots hR hS hL hc hs)
    next => cases h
  next => cases h

theorem zg_lor (C : zCtx p R s m args meth c y D cy kc ks) (hd : decode (zcode y) pc = .ok (.lor, len)) (h : zins y pc (.lor) len L st X = some (.inl q)) (k : zGo p l e R s m args below meth c Q D cy B b H0 X' kc ks q.1 q.2.1 q.2.2.1 q.2.2.2) : zGo p l e R s m args below meth c Q D cy B b H0 X' kc ks pc L st X := by
  simp only [zins] at h
  split at h
  next hl =>
    subst hl
    unfold zj2 at h
    split at h
    next yy xx t =>
      cases h
      intro H ls locs cells slots hR hS hL hc hs
      exact lv_lor C.1 C.2.1 hd (k H ls locs cells slots hR hS hL hc hs)
    next => cases h
  next => cases h

theorem zg_lrem (C : zCtx p R s m args meth c y D cy kc ks) (hd : decode (zcode y) pc = .ok (.lrem, len)) (h : zins y pc (.lrem) len L st X = some (.inl q)) (k : zGo p l e R s m args below meth c Q D cy B b H0 X' kc ks q.1 q.2.1 q.2.2.1 q.2.2.2) : zGo p l e R s m args below meth c Q D cy B b H0 X' kc ks pc L st X := by
  simp only [zins] at h
  split at h
  next hl =>
    subst hl
    unfold zj2z at h
    split at h
    next yy xx t =>
      split at h
      next => cases h
      next hne =>
        cases h
        intro H ls locs cells slots hR hS hL hc hs
        exact lv_lrem C.1 C.2.1 hd hne (k H ls locs cells slots hR hS hL hc hs)
    next => cases h
  next => cases h

theorem zg_lshl (C : zCtx p R s m args meth c y D cy kc ks) (hd : decode (zcode y) pc = .ok (.lshl, len)) (h : zins y pc (.lshl) len L st X = some (.inl q)) (k : zGo p l e R s m args below meth c Q D cy B b H0 X' kc ks q.1 q.2.1 q.2.2.1 q.2.2.2) : zGo p l e R s m args below meth c Q D cy B b H0 X' kc ks pc L st X := by
  simp only [zins] at h
  split at h
  next hl =>
    subst hl
    unfold zji at h
    split at h
    next yy xx t =>
      cases h
      intro H ls locs cells slots hR hS hL hc hs
      exact lv_lshl C.1 C.2.1 hd rfl (k H ls locs cells slots hR hS hL hc hs)
    next => cases h
  next => cases h

theorem zg_lushr (C : zCtx p R s m args meth c y D cy kc ks) (hd : decode (zcode y) pc = .ok (.lushr, len)) (h : zins y pc (.lushr) len L st X = some (.inl q)) (k : zGo p l e R s m args below meth c Q D cy B b H0 X' kc ks q.1 q.2.1 q.2.2.1 q.2.2.2) : zGo p l e R s m args below meth c Q D cy B b H0 X' kc ks pc L st X := by
  simp only [zins] at h
  split at h
  next hl =>
    subst hl
    unfold zji at h
    split at h
    next yy xx t =>
      cases h
      intro H ls locs cells slots hR hS hL hc hs
      exact lv_lushr C.1 C.2.1 hd rfl (k H ls locs cells slots hR hS hL hc hs)
    next => cases h
  next => cases h

theorem zg_ineg (C : zCtx p R s m args meth c y D cy kc ks) (hd : decode (zcode y) pc = .ok (.ineg, len)) (h : zins y pc (.ineg) len L st X = some (.inl q)) (k : zGo p l e R s m args below meth c Q D cy B b H0 X' kc ks q.1 q.2.1 q.2.2.1 q.2.2.2) : zGo p l e R s m args below meth c Q D cy B b H0 X' kc ks pc L st X := by
  simp only [zins] at h
  split at h
  next hl =>
    subst hl
    unfold zi1 at h
    split at h
    next xx t =>
      cases h
      intro H ls locs cells slots hR hS hL hc hs
      exact lv_ineg C.1 C.2.1 hd (k H ls locs cells slots hR hS hL hc hs)
    next => cases h
  next => cases h

theorem zg_i2l (C : zCtx p R s m args meth c y D cy kc ks) (hd : decode (zcode y) pc = .ok (.i2l, len)) (h : zins y pc (.i2l) len L st X = some (.inl q)) (k : zGo p l e R s m args below meth c Q D cy B b H0 X' kc ks q.1 q.2.1 q.2.2.1 q.2.2.2) : zGo p l e R s m args below meth c Q D cy B b H0 X' kc ks pc L st X := by
  simp only [zins] at h
  split at h
  next hl =>
    subst hl
    unfold zi1 at h
    split at h
    next xx t =>
      cases h
      intro H ls locs cells slots hR hS hL hc hs
      exact lv_i2l C.1 C.2.1 hd rfl (k H ls locs cells slots hR hS hL hc hs)
    next => cases h
  next => cases h

theorem zg_i2c (C : zCtx p R s m args meth c y D cy kc ks) (hd : decode (zcode y) pc = .ok (.i2c, len)) (h : zins y pc (.i2c) len L st X = some (.inl q)) (k : zGo p l e R s m args below meth c Q D cy B b H0 X' kc ks q.1 q.2.1 q.2.2.1 q.2.2.2) : zGo p l e R s m args below meth c Q D cy B b H0 X' kc ks pc L st X := by
  simp only [zins] at h
  split at h
  next hl =>
    subst hl
    unfold zi1 at h
    split at h
    next xx t =>
      cases h
      intro H ls locs cells slots hR hS hL hc hs
      exact lv_i2c C.1 C.2.1 hd rfl (k H ls locs cells slots hR hS hL hc hs)
    next => cases h
  next => cases h

theorem zg_l2i (C : zCtx p R s m args meth c y D cy kc ks) (hd : decode (zcode y) pc = .ok (.l2i, len)) (h : zins y pc (.l2i) len L st X = some (.inl q)) (k : zGo p l e R s m args below meth c Q D cy B b H0 X' kc ks q.1 q.2.1 q.2.2.1 q.2.2.2) : zGo p l e R s m args below meth c Q D cy B b H0 X' kc ks pc L st X := by
  simp only [zins] at h
  split at h
  next hl =>
    subst hl
    unfold zl1 at h
    split at h
    next xx t =>
      cases h
      intro H ls locs cells slots hR hS hL hc hs
      exact lv_l2i C.1 C.2.1 hd rfl (k H ls locs cells slots hR hS hL hc hs)
    next => cases h
  next => cases h

theorem zg_lcmp (C : zCtx p R s m args meth c y D cy kc ks) (hd : decode (zcode y) pc = .ok (.lcmp, len)) (h : zins y pc (.lcmp) len L st X = some (.inl q)) (k : zGo p l e R s m args below meth c Q D cy B b H0 X' kc ks q.1 q.2.1 q.2.2.1 q.2.2.2) : zGo p l e R s m args below meth c Q D cy B b H0 X' kc ks pc L st X := by
  simp only [zins] at h
  split at h
  next hl =>
    subst hl
    unfold zcmp at h
    split at h
    next yy xx t =>
      cases h
      intro H ls locs cells slots hR hS hL hc hs
      exact W.lcmp C.1 C.2.1 hd (k H ls locs cells slots hR hS hL hc hs)
    next => cases h
  next => cases h

theorem zg_dup (C : zCtx p R s m args meth c y D cy kc ks) (hd : decode (zcode y) pc = .ok (.dup, len)) (h : zins y pc (.dup) len L st X = some (.inl q)) (k : zGo p l e R s m args below meth c Q D cy B b H0 X' kc ks q.1 q.2.1 q.2.2.1 q.2.2.2) : zGo p l e R s m args below meth c Q D cy B b H0 X' kc ks pc L st X := by
  simp only [zins] at h
  split at h
  next hl =>
    subst hl
    unfold zdup at h
    split at h
    next v t =>
      split at h
      next hv =>
        cases h
        intro H ls locs cells slots hR hS hL hc hs
        exact lv_dup C.1 C.2.1 hd (by rw [zsh_cat]; exact hv) (k H ls locs cells slots hR hS hL hc hs)
      next => cases h
    next => cases h
  next => cases h

theorem zg_pop (C : zCtx p R s m args meth c y D cy kc ks) (hd : decode (zcode y) pc = .ok (.pop, len)) (h : zins y pc (.pop) len L st X = some (.inl q)) (k : zGo p l e R s m args below meth c Q D cy B b H0 X' kc ks q.1 q.2.1 q.2.2.1 q.2.2.2) : zGo p l e R s m args below meth c Q D cy B b H0 X' kc ks pc L st X := by
  simp only [zins] at h
  split at h
  next hl =>
    subst hl
    unfold zpop at h
    split at h
    next v t =>
      split at h
      next hv =>
        cases h
        intro H ls locs cells slots hR hS hL hc hs
        exact lv_pop C.1 C.2.1 hd (by rw [zsh_cat]; exact hv) (k H ls locs cells slots hR hS hL hc hs)
      next => cases h
    next => cases h
  next => cases h

theorem zg_dup2 (C : zCtx p R s m args meth c y D cy kc ks) (hd : decode (zcode y) pc = .ok (.dup2, len)) (h : zins y pc (.dup2) len L st X = some (.inl q)) (k : zGo p l e R s m args below meth c Q D cy B b H0 X' kc ks q.1 q.2.1 q.2.2.1 q.2.2.2) : zGo p l e R s m args below meth c Q D cy B b H0 X' kc ks pc L st X := by
  simp only [zins] at h
  split at h
  next hl =>
    subst hl
    unfold zdup2 at h
    split at h
    next v w t =>
      split at h
      next hv =>
        cases h
        intro H ls locs cells slots hR hS hL hc hs
        exact lv_dup2_11 C.1 C.2.1 hd (by rw [zsh_cat]; exact hv.1) (by rw [zsh_cat]; exact hv.2) (k H ls locs cells slots hR hS hL hc hs)
      next => cases h
    next => cases h
  next => cases h

theorem zg_iload {i : Nat} (C : zCtx p R s m args meth c y D cy kc ks) (hd : decode (zcode y) pc = .ok (.iload i, len)) (h : zins y pc (.iload i) len L st X = some (.inl q)) (k : zGo p l e R s m args below meth c Q D cy B b H0 X' kc ks q.1 q.2.1 q.2.2.1 q.2.2.2) : zGo p l e R s m args below meth c Q D cy B b H0 X' kc ks pc L st X := by
  simp only [zins] at h
  split at h
  next hl =>
    subst hl
    unfold zldI at h
    split at h
    next xx hx =>
      cases h
      intro H ls locs cells slots hR hS hL hc hs
      exact lv_iload C.1 C.2.1 hd (zLs_at hL hx rfl) (k H ls locs cells slots hR hS hL hc hs)
    next => cases h
  next => cases h

theorem zg_iload_n {i : Fin 4} (C : zCtx p R s m args meth c y D cy kc ks) (hd : decode (zcode y) pc = .ok (.iload_n i, len)) (h : zins y pc (.iload_n i) len L st X = some (.inl q)) (k : zGo p l e R s m args below meth c Q D cy B b H0 X' kc ks q.1 q.2.1 q.2.2.1 q.2.2.2) : zGo p l e R s m args below meth c Q D cy B b H0 X' kc ks pc L st X := by
  simp only [zins] at h
  split at h
  next hl =>
    subst hl
    unfold zldI at h
    split at h
    next xx hx =>
      cases h
      intro H ls locs cells slots hR hS hL hc hs
      exact lv_iload_n C.1 C.2.1 hd rfl (zLs_at hL hx rfl) (k H ls locs cells slots hR hS hL hc hs)
    next => cases h
  next => cases h

theorem zg_lload {i : Nat} (C : zCtx p R s m args meth c y D cy kc ks) (hd : decode (zcode y) pc = .ok (.lload i, len)) (h : zins y pc (.lload i) len L st X = some (.inl q)) (k : zGo p l e R s m args below meth c Q D cy B b H0 X' kc ks q.1 q.2.1 q.2.2.1 q.2.2.2) : zGo p l e R s m args below meth c Q D cy B b H0 X' kc ks pc L st X := by
  simp only [zins] at h
  split at h
  next hl =>
    subst hl
    unfold zldJ at h
    split at h
    next xx hx =>
      cases h
      intro H ls locs cells slots hR hS hL hc hs
      exact lv_lload C.1 C.2.1 hd (zLs_at hL hx rfl) (k H ls locs cells slots hR hS hL hc hs)
    next => cases h
  next => cases h

theorem zg_lload_n {i : Fin 4} (C : zCtx p R s m args meth c y D cy kc ks) (hd : decode (zcode y) pc = .ok (.lload_n i, len)) (h : zins y pc (.lload_n i) len L st X = some (.inl q)) (k : zGo p l e R s m args below meth c Q D cy B b H0 X' kc ks q.1 q.2.1 q.2.2.1 q.2.2.2) : zGo p l e R s m args below meth c Q D cy B b H0 X' kc ks pc L st X := by
  simp only [zins] at h
  split at h
  next hl =>
    subst hl
    unfold zldJ at h
    split at h
    next xx hx =>
      cases h
      intro H ls locs cells slots hR hS hL hc hs
      exact lv_lload_n C.1 C.2.1 hd rfl (zLs_at hL hx rfl) (k H ls locs cells slots hR hS hL hc hs)
    next => cases h
  next => cases h

theorem zg_aload {i : Nat} (C : zCtx p R s m args meth c y D cy kc ks) (hd : decode (zcode y) pc = .ok (.aload i, len)) (h : zins y pc (.aload i) len L st X = some (.inl q)) (k : zGo p l e R s m args below meth c Q D cy B b H0 X' kc ks q.1 q.2.1 q.2.2.1 q.2.2.2) : zGo p l e R s m args below meth c Q D cy B b H0 X' kc ks pc L st X := by
  simp only [zins] at h
  split at h
  next hl =>
    subst hl
    unfold zldA at h
    split at h
    next xx hx =>
      cases h
      intro H ls locs cells slots hR hS hL hc hs
      exact lv_aload C.1 C.2.1 hd (zLs_at hL hx rfl) (k H ls locs cells slots hR hS hL hc hs)
    next hx =>
      cases h
      intro H ls locs cells slots hR hS hL hc hs
      exact lv_aload C.1 C.2.1 hd (zLs_at hL hx rfl) (k H ls locs cells slots hR hS hL hc hs)
    next => cases h
  next => cases h

theorem zg_aload_n {i : Fin 4} (C : zCtx p R s m args meth c y D cy kc ks) (hd : decode (zcode y) pc = .ok (.aload_n i, len)) (h : zins y pc (.aload_n i) len L st X = some (.inl q)) (k : zGo p l e R s m args below meth c Q D cy B b H0 X' kc ks q.1 q.2.1 q.2.2.1 q.2.2.2) : zGo p l e R s m args below meth c Q D cy B b H0 X' kc ks pc L st X := by
  simp only [zins] at h
  split at h
  next hl =>
    subst hl
    unfold zldA at h
    split at h
    next xx hx =>
      cases h
      intro H ls locs cells slots hR hS hL hc hs
      exact lv_aload_n C.1 C.2.1 hd rfl (zLs_at hL hx rfl) (k H ls locs cells slots hR hS hL hc hs)
    next hx =>
      cases h
      intro H ls locs cells slots hR hS hL hc hs
      exact lv_aload_n C.1 C.2.1 hd rfl (zLs_at hL hx rfl) (k H ls locs cells slots hR hS hL hc hs)
    next => cases h
  next => cases h

theorem zg_istore {i : Nat} (C : zCtx p R s m args meth c y D cy kc ks) (hd : decode (zcode y) pc = .ok (.istore i, len)) (h : zins y pc (.istore i) len L st X = some (.inl q)) (k : zGo p l e R s m args below meth c Q D cy B b H0 X' kc ks q.1 q.2.1 q.2.2.1 q.2.2.2) : zGo p l e R s m args below meth c Q D cy B b H0 X' kc ks pc L st X := by
  simp only [zins] at h
  split at h
  next hl =>
    subst hl
    unfold zstI at h
    split at h
    next xx t =>
      split at h
      next hv =>
        cases h
        intro H ls locs cells slots hR hS hL hc hs
        exact lv_istore C.1 C.2.1 hd (zLs_has hL) hv.1 rfl (fun ls' hl' => k H ls' locs cells slots hR hS (zLs_st1 (v := .int xx) hv.1 hv.2 hl' rfl) hc hs)
      next => cases h
    next => cases h
  next => cases h

theorem zg_istore_n {i : Fin 4} (C : zCtx p R s m args meth c y D cy kc ks) (hd : decode (zcode y) pc = .ok (.istore_n i, len)) (h : zins y pc (.istore_n i) len L st X = some (.inl q)) (k : zGo p l e R s m args below meth c Q D cy B b H0 X' kc ks q.1 q.2.1 q.2.2.1 q.2.2.2) : zGo p l e R s m args below meth c Q D cy B b H0 X' kc ks pc L st X := by
  simp only [zins] at h
  split at h
  next hl =>
    subst hl
    unfold zstI at h
    split at h
    next xx t =>
      split at h
      next hv =>
        cases h
        intro H ls locs cells slots hR hS hL hc hs
        exact lv_istore_n C.1 C.2.1 hd rfl (zLs_has hL) hv.1 rfl (fun ls' hl' => k H ls' locs cells slots hR hS (zLs_st1 (v := .int xx) hv.1 hv.2 hl' rfl) hc hs)
      next => cases h
    next => cases h
  next => cases h

theorem zg_lstore {i : Nat} (C : zCtx p R s m args meth c y D cy kc ks) (hd : decode (zcode y) pc = .ok (.lstore i, len)) (h : zins y pc (.lstore i) len L st X = some (.inl q)) (k : zGo p l e R s m args below meth c Q D cy B b H0 X' kc ks q.1 q.2.1 q.2.2.1 q.2.2.2) : zGo p l e R s m args below meth c Q D cy B b H0 X' kc ks pc L st X := by
  simp only [zins] at h
  split at h
  next hl =>
    subst hl
    unfold zstJ at h
    split at h
    next xx t =>
      split at h
      next hv =>
        cases h
        intro H ls locs cells slots hR hS hL hc hs
        exact lv_lstore C.1 C.2.1 hd (zLs_has hL) hv.1 rfl (fun ls' hl' => k H ls' locs cells slots hR hS (zLs_st2 (v := .long xx) hv.1 hv.2 hl' rfl) hc hs)
      next => cases h
    next => cases h
  next => cases h

theorem zg_lstore_n {i : Fin 4} (C : zCtx p R s m args meth c y D cy kc ks) (hd : decode (zcode y) pc = .ok (.lstore_n i, len)) (h : zins y pc (.lstore_n i) len L st X = some (.inl q)) (k : zGo p l e R s m args below meth c Q D cy B b H0 X' kc ks q.1 q.2.1 q.2.2.1 q.2.2.2) : zGo p l e R s m args below meth c Q D cy B b H0 X' kc ks pc L st X := by
  simp only [zins] at h
  split at h
  next hl =>
    subst hl
    unfold zstJ at h
    split at h
    next xx t =>
      split at h
      next hv =>
        cases h
        intro H ls locs cells slots hR hS hL hc hs
        exact lv_lstore_n C.1 C.2.1 hd rfl (zLs_has hL) hv.1 rfl (fun ls' hl' => k H ls' locs cells slots hR hS (zLs_st2 (v := .long xx) hv.1 hv.2 hl' rfl) hc hs)
      next => cases h
    next => cases h
  next => cases h

theorem zg_astore_n {i : Fin 4} (C : zCtx p R s m args meth c y D cy kc ks) (hd : decode (zcode y) pc = .ok (.astore_n i, len)) (h : zins y pc (.astore_n i) len L st X = some (.inl q)) (k : zGo p l e R s m args below meth c Q D cy B b H0 X' kc ks q.1 q.2.1 q.2.2.1 q.2.2.2) : zGo p l e R s m args below meth c Q D cy B b H0 X' kc ks pc L st X := by
  simp only [zins] at h
  split at h
  next hl =>
    subst hl
    unfold zstA at h
    split at h
    next xx t =>
      split at h
      next hv =>
        cases h
        intro H ls locs cells slots hR hS hL hc hs
        exact lv_astore_n C.1 C.2.1 hd rfl (zLs_has hL) hv.1 rfl (fun ls' hl' => k H ls' locs cells slots hR hS (zLs_st1 (v := .ref xx) hv.1 hv.2 hl' rfl) hc hs)
      next => cases h
    next => cases h
  next => cases h

theorem zg_iinc {i : Nat} {n : Int} (C : zCtx p R s m args meth c y D cy kc ks) (hd : decode (zcode y) pc = .ok (.iinc i n, len)) (h : zins y pc (.iinc i n) len L st X = some (.inl q)) (k : zGo p l e R s m args below meth c Q D cy B b H0 X' kc ks q.1 q.2.1 q.2.2.1 q.2.2.2) : zGo p l e R s m args below meth c Q D cy B b H0 X' kc ks pc L st X := by
  simp only [zins] at h
  split at h
  next hl =>
    subst hl
    unfold zinc at h
    split at h
    next xx hx =>
      split at h
      next hv =>
        cases h
        intro H ls locs cells slots hR hS hL hc hs
        have hlt : i < L.length := (List.getElem?_eq_some_iff.mp hx).1
        obtain ⟨k0, hk0⟩ := List.getElem?_of_mem (zprs_mem.mpr ⟨_, hx, rfl, rfl⟩ : (i, zsh B b (.int xx)) ∈ zprs B b L)
        exact lv_iinc (lv' := (i, Value.int (xx + Int32.ofInt n)) :: (zprs B b L).filter (fun q => !(q.1 == i) && !(q.1 + 1 == i && q.2.category == 2))) C.1 C.2.1 hd (zLs_has hL) hk0 rfl hlt rfl (fun ls' hl' => k H ls' locs cells slots hR hS (zLs_st1 (v := .int (xx + Int32.ofInt n)) hlt hv hl' rfl) hc hs)
      next => cases h
    next => cases h
  next => cases h

theorem zin_tb (C : zCtx p R s m args meth c y D cy kc ks) {i : Nat} {w : Cond} (h : lw_tbl[i]? = some w) (g : goodWord w = true) : w.before args s = true := C.2.2.2.2.2.1 w (zTb_in h g)
theorem zfind {α : Type} {T : List ((Nat × Nat) × α)} {o i : Nat} {r : α} (h : (T.find? (fun q => q.1.1 == o && q.1.2 == i)).map (fun q => q.2) = some r) : ((o, i), r) ∈ T := by
  obtain ⟨q, h1, h2⟩ := Option.map_eq_some_iff.mp h
  have h3 := List.find?_some h1
  have h4 := List.mem_of_find?_eq_some h1
  simp only [Bool.and_eq_true, beq_iff_eq] at h3
  obtain ⟨⟨a1, a2⟩, a3⟩ := q
  obtain ⟨e1, e2⟩ := h3
  dsimp only at e1 e2 h2
  subst e1; subst e2; subst h2
  exact h4
theorem zldc_ok {o i : Nat} {v : Int32} (h : zldc o i = some v) : ∃ n : Nat, lw_tbl[n]? = some (Cond.constant (zOn o) i v) := by
  obtain ⟨q, h1, h2⟩ := Option.map_eq_some_iff.mp h
  have h3 := List.find?_some h1
  have h4 := of_decide_eq_true (zKt_ok q (List.mem_of_find?_eq_some h1))
  simp only [Bool.and_eq_true, beq_iff_eq] at h3
  exact ⟨q.2.2, by rw [h4, h3.1, h3.2, h2]⟩
theorem zldc2_ok {o i : Nat} {v : Int64} (h : zldc2 o i = some v) : ∃ n : Nat, lw_tbl[n]? = some (Cond.constantLong (zOn o) i v) := by
  obtain ⟨q, h1, h2⟩ := Option.map_eq_some_iff.mp h
  have h3 := List.find?_some h1
  have h4 := of_decide_eq_true (zJt_ok q (List.mem_of_find?_eq_some h1))
  simp only [Bool.and_eq_true, beq_iff_eq] at h3
  exact ⟨q.2.2, by rw [h4, h3.1, h3.2, h2]⟩

theorem zg_ldc {i : Nat} (C : zCtx p R s m args meth c y D cy kc ks) (hd : decode (zcode y) pc = .ok (.ldc i, len)) (h : zins y pc (.ldc i) len L st X = some (.inl q)) (k : zGo p l e R s m args below meth c Q D cy B b H0 X' kc ks q.1 q.2.1 q.2.2.1 q.2.2.2) : zGo p l e R s m args below meth c Q D cy B b H0 X' kc ks pc L st X := by
  simp only [zins] at h
  split at h
  next hl =>
    subst hl
    unfold zcst at h
    split at h
    next v hv =>
      cases h
      obtain ⟨n, hn⟩ := zldc_ok hv
      intro H ls locs cells slots hR hS hL hc hs
      exact lv_ldc C.1 C.2.1 C.2.2.2.2.1 (zin_tb C hn rfl) hd (k H ls locs cells slots hR hS hL hc hs)
    next => cases h
  next => cases h

theorem zg_ldc_w {i : Nat} (C : zCtx p R s m args meth c y D cy kc ks) (hd : decode (zcode y) pc = .ok (.ldc_w i, len)) (h : zins y pc (.ldc_w i) len L st X = some (.inl q)) (k : zGo p l e R s m args below meth c Q D cy B b H0 X' kc ks q.1 q.2.1 q.2.2.1 q.2.2.2) : zGo p l e R s m args below meth c Q D cy B b H0 X' kc ks pc L st X := by
  simp only [zins] at h
  split at h
  next hl =>
    subst hl
    unfold zcst at h
    split at h
    next v hv =>
      cases h
      obtain ⟨n, hn⟩ := zldc_ok hv
      intro H ls locs cells slots hR hS hL hc hs
      exact lv_ldcw C.1 C.2.1 C.2.2.2.2.1 (zin_tb C hn rfl) hd (k H ls locs cells slots hR hS hL hc hs)
    next => cases h
  next => cases h

theorem zg_ldc2_w {i : Nat} (C : zCtx p R s m args meth c y D cy kc ks) (hd : decode (zcode y) pc = .ok (.ldc2_w i, len)) (h : zins y pc (.ldc2_w i) len L st X = some (.inl q)) (k : zGo p l e R s m args below meth c Q D cy B b H0 X' kc ks q.1 q.2.1 q.2.2.1 q.2.2.2) : zGo p l e R s m args below meth c Q D cy B b H0 X' kc ks pc L st X := by
  simp only [zins] at h
  split at h
  next hl =>
    subst hl
    unfold zcst2 at h
    split at h
    next v hv =>
      cases h
      obtain ⟨n, hn⟩ := zldc2_ok hv
      intro H ls locs cells slots hR hS hL hc hs
      exact lv_ldc2 C.1 C.2.1 C.2.2.2.2.1 (zin_tb C hn rfl) hd (k H ls locs cells slots hR hS hL hc hs)
    next => cases h
  next => cases h

theorem ztoNat {pc : Nat} {off : Int} (h : (pc : Int) + off = ((((pc : Int) + off).toNat : Nat) : Int)) : (pc : Int) + off = ((((pc : Int) + off).toNat : Nat) : Int) := h

theorem zg_if_eq {off : Int} (C : zCtx p R s m args meth c y D cy kc ks) (hd : decode (zcode y) pc = .ok (.ifCond .eq off, len)) (h : zins y pc (.ifCond .eq off) len L st X = some (.inl q)) (k : zGo p l e R s m args below meth c Q D cy B b H0 X' kc ks q.1 q.2.1 q.2.2.1 q.2.2.2) : zGo p l e R s m args below meth c Q D cy B b H0 X' kc ks pc L st X := by
  simp only [zins] at h
  split at h
  next xx t =>
    split at h
    next hl =>
      subst hl
      unfold zbr at h
      split at h
      next ht =>
        split at h
        next hcnd =>
          have hcnd := of_decide_eq_true hcnd
          cases h
          intro H ls locs cells slots hR hS hL hc hs
          exact lv_if_eq C.1 C.2.1 hd ht (fun _ => (k H ls locs cells slots hR hS hL hc hs)) (fun hn => absurd hcnd hn)
        next hcnd =>
          have hcnd := fun z => hcnd (decide_eq_true z)
          cases h
          intro H ls locs cells slots hR hS hL hc hs
          exact lv_if_eq C.1 C.2.1 hd ht (fun hn => absurd hn hcnd) (fun _ => (k H ls locs cells slots hR hS hL hc hs))
      next => cases h
    next => cases h
  next => cases h

theorem zg_icmp_eq {off : Int} (C : zCtx p R s m args meth c y D cy kc ks) (hd : decode (zcode y) pc = .ok (.if_icmp .eq off, len)) (h : zins y pc (.if_icmp .eq off) len L st X = some (.inl q)) (k : zGo p l e R s m args below meth c Q D cy B b H0 X' kc ks q.1 q.2.1 q.2.2.1 q.2.2.2) : zGo p l e R s m args below meth c Q D cy B b H0 X' kc ks pc L st X := by
  simp only [zins] at h
  split at h
  next yy xx t =>
    split at h
    next hl =>
      subst hl
      unfold zbr at h
      split at h
      next ht =>
        split at h
        next hcnd =>
          have hcnd := of_decide_eq_true hcnd
          cases h
          intro H ls locs cells slots hR hS hL hc hs
          exact lv_icmp_eq C.1 C.2.1 hd ht (fun _ => (k H ls locs cells slots hR hS hL hc hs)) (fun hn => absurd hcnd hn)
        next hcnd =>
          have hcnd := fun z => hcnd (decide_eq_true z)
          cases h
          intro H ls locs cells slots hR hS hL hc hs
          exact lv_icmp_eq C.1 C.2.1 hd ht (fun hn => absurd hn hcnd) (fun _ => (k H ls locs cells slots hR hS hL hc hs))
      next => cases h
    next => cases h
  next => cases h

theorem zg_if_ne {off : Int} (C : zCtx p R s m args meth c y D cy kc ks) (hd : decode (zcode y) pc = .ok (.ifCond .ne off, len)) (h : zins y pc (.ifCond .ne off) len L st X = some (.inl q)) (k : zGo p l e R s m args below meth c Q D cy B b H0 X' kc ks q.1 q.2.1 q.2.2.1 q.2.2.2) : zGo p l e R s m args below meth c Q D cy B b H0 X' kc ks pc L st X := by
  simp only [zins] at h
  split at h
  next xx t =>
    split at h
    next hl =>
      subst hl
      unfold zbr at h
      split at h
      next ht =>
        split at h
        next hcnd =>
          have hcnd := of_decide_eq_true hcnd
          cases h
          intro H ls locs cells slots hR hS hL hc hs
          exact lv_if_ne C.1 C.2.1 hd ht (fun _ => (k H ls locs cells slots hR hS hL hc hs)) (fun hn => absurd hn hcnd)
        next hcnd =>
          have hcnd := fun z => hcnd (decide_eq_true z)
          cases h
          intro H ls locs cells slots hR hS hL hc hs
          exact lv_if_ne C.1 C.2.1 hd ht (fun hn => absurd hn hcnd) (fun _ => (k H ls locs cells slots hR hS hL hc hs))
      next => cases h
    next => cases h
  next => cases h

theorem zg_icmp_ne {off : Int} (C : zCtx p R s m args meth c y D cy kc ks) (hd : decode (zcode y) pc = .ok (.if_icmp .ne off, len)) (h : zins y pc (.if_icmp .ne off) len L st X = some (.inl q)) (k : zGo p l e R s m args below meth c Q D cy B b H0 X' kc ks q.1 q.2.1 q.2.2.1 q.2.2.2) : zGo p l e R s m args below meth c Q D cy B b H0 X' kc ks pc L st X := by
  simp only [zins] at h
  split at h
  next yy xx t =>
    split at h
    next hl =>
      subst hl
      unfold zbr at h
      split at h
      next ht =>
        split at h
        next hcnd =>
          have hcnd := of_decide_eq_true hcnd
          cases h
          intro H ls locs cells slots hR hS hL hc hs
          exact lv_icmp_ne C.1 C.2.1 hd ht (fun _ => (k H ls locs cells slots hR hS hL hc hs)) (fun hn => absurd hn hcnd)
        next hcnd =>
          have hcnd := fun z => hcnd (decide_eq_true z)
          cases h
          intro H ls locs cells slots hR hS hL hc hs
          exact lv_icmp_ne C.1 C.2.1 hd ht (fun hn => absurd hn hcnd) (fun _ => (k H ls locs cells slots hR hS hL hc hs))
      next => cases h
    next => cases h
  next => cases h

theorem zg_if_lt {off : Int} (C : zCtx p R s m args meth c y D cy kc ks) (hd : decode (zcode y) pc = .ok (.ifCond .lt off, len)) (h : zins y pc (.ifCond .lt off) len L st X = some (.inl q)) (k : zGo p l e R s m args below meth c Q D cy B b H0 X' kc ks q.1 q.2.1 q.2.2.1 q.2.2.2) : zGo p l e R s m args below meth c Q D cy B b H0 X' kc ks pc L st X := by
  simp only [zins] at h
  split at h
  next xx t =>
    split at h
    next hl =>
      subst hl
      unfold zbr at h
      split at h
      next ht =>
        split at h
        next hcnd =>
          have hcnd := of_decide_eq_true hcnd
          cases h
          intro H ls locs cells slots hR hS hL hc hs
          exact lv_if_lt C.1 C.2.1 hd ht (fun _ => (k H ls locs cells slots hR hS hL hc hs)) (fun hn => absurd hcnd hn)
        next hcnd =>
          have hcnd := fun z => hcnd (decide_eq_true z)
          cases h
          intro H ls locs cells slots hR hS hL hc hs
          exact lv_if_lt C.1 C.2.1 hd ht (fun hn => absurd hn hcnd) (fun _ => (k H ls locs cells slots hR hS hL hc hs))
      next => cases h
    next => cases h
  next => cases h

theorem zg_icmp_lt {off : Int} (C : zCtx p R s m args meth c y D cy kc ks) (hd : decode (zcode y) pc = .ok (.if_icmp .lt off, len)) (h : zins y pc (.if_icmp .lt off) len L st X = some (.inl q)) (k : zGo p l e R s m args below meth c Q D cy B b H0 X' kc ks q.1 q.2.1 q.2.2.1 q.2.2.2) : zGo p l e R s m args below meth c Q D cy B b H0 X' kc ks pc L st X := by
  simp only [zins] at h
  split at h
  next yy xx t =>
    split at h
    next hl =>
      subst hl
      unfold zbr at h
      split at h
      next ht =>
        split at h
        next hcnd =>
          have hcnd := of_decide_eq_true hcnd
          cases h
          intro H ls locs cells slots hR hS hL hc hs
          exact lv_icmp_lt C.1 C.2.1 hd ht (fun _ => (k H ls locs cells slots hR hS hL hc hs)) (fun hn => absurd hcnd hn)
        next hcnd =>
          have hcnd := fun z => hcnd (decide_eq_true z)
          cases h
          intro H ls locs cells slots hR hS hL hc hs
          exact lv_icmp_lt C.1 C.2.1 hd ht (fun hn => absurd hn hcnd) (fun _ => (k H ls locs cells slots hR hS hL hc hs))
      next => cases h
    next => cases h
  next => cases h

theorem zg_if_ge {off : Int} (C : zCtx p R s m args meth c y D cy kc ks) (hd : decode (zcode y) pc = .ok (.ifCond .ge off, len)) (h : zins y pc (.ifCond .ge off) len L st X = some (.inl q)) (k : zGo p l e R s m args below meth c Q D cy B b H0 X' kc ks q.1 q.2.1 q.2.2.1 q.2.2.2) : zGo p l e R s m args below meth c Q D cy B b H0 X' kc ks pc L st X := by
  simp only [zins] at h
  split at h
  next xx t =>
    split at h
    next hl =>
      subst hl
      unfold zbr at h
      split at h
      next ht =>
        split at h
        next hcnd =>
          have hcnd := of_decide_eq_true hcnd
          cases h
          intro H ls locs cells slots hR hS hL hc hs
          exact lv_if_ge C.1 C.2.1 hd ht (fun _ => (k H ls locs cells slots hR hS hL hc hs)) (fun hn => absurd hcnd hn)
        next hcnd =>
          have hcnd := fun z => hcnd (decide_eq_true z)
          cases h
          intro H ls locs cells slots hR hS hL hc hs
          exact lv_if_ge C.1 C.2.1 hd ht (fun hn => absurd hn hcnd) (fun _ => (k H ls locs cells slots hR hS hL hc hs))
      next => cases h
    next => cases h
  next => cases h

theorem zg_icmp_ge {off : Int} (C : zCtx p R s m args meth c y D cy kc ks) (hd : decode (zcode y) pc = .ok (.if_icmp .ge off, len)) (h : zins y pc (.if_icmp .ge off) len L st X = some (.inl q)) (k : zGo p l e R s m args below meth c Q D cy B b H0 X' kc ks q.1 q.2.1 q.2.2.1 q.2.2.2) : zGo p l e R s m args below meth c Q D cy B b H0 X' kc ks pc L st X := by
  simp only [zins] at h
  split at h
  next yy xx t =>
    split at h
    next hl =>
      subst hl
      unfold zbr at h
      split at h
      next ht =>
        split at h
        next hcnd =>
          have hcnd := of_decide_eq_true hcnd
          cases h
          intro H ls locs cells slots hR hS hL hc hs
          exact lv_icmp_ge C.1 C.2.1 hd ht (fun _ => (k H ls locs cells slots hR hS hL hc hs)) (fun hn => absurd hcnd hn)
        next hcnd =>
          have hcnd := fun z => hcnd (decide_eq_true z)
          cases h
          intro H ls locs cells slots hR hS hL hc hs
          exact lv_icmp_ge C.1 C.2.1 hd ht (fun hn => absurd hn hcnd) (fun _ => (k H ls locs cells slots hR hS hL hc hs))
      next => cases h
    next => cases h
  next => cases h

theorem zg_if_gt {off : Int} (C : zCtx p R s m args meth c y D cy kc ks) (hd : decode (zcode y) pc = .ok (.ifCond .gt off, len)) (h : zins y pc (.ifCond .gt off) len L st X = some (.inl q)) (k : zGo p l e R s m args below meth c Q D cy B b H0 X' kc ks q.1 q.2.1 q.2.2.1 q.2.2.2) : zGo p l e R s m args below meth c Q D cy B b H0 X' kc ks pc L st X := by
  simp only [zins] at h
  split at h
  next xx t =>
    split at h
    next hl =>
      subst hl
      unfold zbr at h
      split at h
      next ht =>
        split at h
        next hcnd =>
          have hcnd := of_decide_eq_true hcnd
          cases h
          intro H ls locs cells slots hR hS hL hc hs
          exact lv_if_gt C.1 C.2.1 hd ht (fun _ => (k H ls locs cells slots hR hS hL hc hs)) (fun hn => absurd hcnd hn)
        next hcnd =>
          have hcnd := fun z => hcnd (decide_eq_true z)
          cases h
          intro H ls locs cells slots hR hS hL hc hs
          exact lv_if_gt C.1 C.2.1 hd ht (fun hn => absurd hn hcnd) (fun _ => (k H ls locs cells slots hR hS hL hc hs))
      next => cases h
    next => cases h
  next => cases h

theorem zg_icmp_gt {off : Int} (C : zCtx p R s m args meth c y D cy kc ks) (hd : decode (zcode y) pc = .ok (.if_icmp .gt off, len)) (h : zins y pc (.if_icmp .gt off) len L st X = some (.inl q)) (k : zGo p l e R s m args below meth c Q D cy B b H0 X' kc ks q.1 q.2.1 q.2.2.1 q.2.2.2) : zGo p l e R s m args below meth c Q D cy B b H0 X' kc ks pc L st X := by
  simp only [zins] at h
  split at h
  next yy xx t =>
    split at h
    next hl =>
      subst hl
      unfold zbr at h
      split at h
      next ht =>
        split at h
        next hcnd =>
          have hcnd := of_decide_eq_true hcnd
          cases h
          intro H ls locs cells slots hR hS hL hc hs
          exact lv_icmp_gt C.1 C.2.1 hd ht (fun _ => (k H ls locs cells slots hR hS hL hc hs)) (fun hn => absurd hcnd hn)
        next hcnd =>
          have hcnd := fun z => hcnd (decide_eq_true z)
          cases h
          intro H ls locs cells slots hR hS hL hc hs
          exact lv_icmp_gt C.1 C.2.1 hd ht (fun hn => absurd hn hcnd) (fun _ => (k H ls locs cells slots hR hS hL hc hs))
      next => cases h
    next => cases h
  next => cases h

theorem zg_if_le {off : Int} (C : zCtx p R s m args meth c y D cy kc ks) (hd : decode (zcode y) pc = .ok (.ifCond .le off, len)) (h : zins y pc (.ifCond .le off) len L st X = some (.inl q)) (k : zGo p l e R s m args below meth c Q D cy B b H0 X' kc ks q.1 q.2.1 q.2.2.1 q.2.2.2) : zGo p l e R s m args below meth c Q D cy B b H0 X' kc ks pc L st X := by
  simp only [zins] at h
  split at h
  next xx t =>
    split at h
    next hl =>
      subst hl
      unfold zbr at h
      split at h
      next ht =>
        split at h
        next hcnd =>
          have hcnd := of_decide_eq_true hcnd
          cases h
          intro H ls locs cells slots hR hS hL hc hs
          exact lv_if_le C.1 C.2.1 hd ht (fun _ => (k H ls locs cells slots hR hS hL hc hs)) (fun hn => absurd hcnd hn)
        next hcnd =>
          have hcnd := fun z => hcnd (decide_eq_true z)
          cases h
          intro H ls locs cells slots hR hS hL hc hs
          exact lv_if_le C.1 C.2.1 hd ht (fun hn => absurd hn hcnd) (fun _ => (k H ls locs cells slots hR hS hL hc hs))
      next => cases h
    next => cases h
  next => cases h

theorem zg_icmp_le {off : Int} (C : zCtx p R s m args meth c y D cy kc ks) (hd : decode (zcode y) pc = .ok (.if_icmp .le off, len)) (h : zins y pc (.if_icmp .le off) len L st X = some (.inl q)) (k : zGo p l e R s m args below meth c Q D cy B b H0 X' kc ks q.1 q.2.1 q.2.2.1 q.2.2.2) : zGo p l e R s m args below meth c Q D cy B b H0 X' kc ks pc L st X := by
  simp only [zins] at h
  split at h
  next yy xx t =>
    split at h
    next hl =>
      subst hl
      unfold zbr at h
      split at h
      next ht =>
        split at h
        next hcnd =>
          have hcnd := of_decide_eq_true hcnd
          cases h
          intro H ls locs cells slots hR hS hL hc hs
          exact lv_icmp_le C.1 C.2.1 hd ht (fun _ => (k H ls locs cells slots hR hS hL hc hs)) (fun hn => absurd hcnd hn)
        next hcnd =>
          have hcnd := fun z => hcnd (decide_eq_true z)
          cases h
          intro H ls locs cells slots hR hS hL hc hs
          exact lv_icmp_le C.1 C.2.1 hd ht (fun hn => absurd hn hcnd) (fun _ => (k H ls locs cells slots hR hS hL hc hs))
      next => cases h
    next => cases h
  next => cases h

theorem zjmp_ok {off : Int} (C : zCtx p R s m args meth c y D cy kc ks) (h : zjmp pc off L st X = some (.inl q)) : (pc : Int) + off = ((((pc : Int) + off).toNat : Nat) : Int) ∧ q = (((pc : Int) + off).toNat, L, st, X) := by
  unfold zjmp at h
  split at h
  next ht => cases h; exact ⟨ht, rfl⟩
  next => cases h
theorem zg_goto {off : Int} (C : zCtx p R s m args meth c y D cy kc ks) (hd : decode (zcode y) pc = .ok (.goto off, len)) (h : zins y pc (.goto off) len L st X = some (.inl q)) (k : zGo p l e R s m args below meth c Q D cy B b H0 X' kc ks q.1 q.2.1 q.2.2.1 q.2.2.2) : zGo p l e R s m args below meth c Q D cy B b H0 X' kc ks pc L st X := by
  simp only [zins] at h
  split at h
  next hl =>
    subst hl
    obtain ⟨ht, rfl⟩ := zjmp_ok C h
    intro H ls locs cells slots hR hS hL hc hs
    exact lv_goto C.1 C.2.1 hd ht (k H ls locs cells slots hR hS hL hc hs)
  next => cases h

theorem zg_tab {dflt lo hi : Int} {offs : Array Int} (C : zCtx p R s m args meth c y D cy kc ks) (hd : decode (zcode y) pc = .ok (.tableswitch dflt lo hi offs, len)) (h : zins y pc (.tableswitch dflt lo hi offs) len L st X = some (.inl q)) (k : zGo p l e R s m args below meth c Q D cy B b H0 X' kc ks q.1 q.2.1 q.2.2.1 q.2.2.2) : zGo p l e R s m args below meth c Q D cy B b H0 X' kc ks pc L st X := by
  simp only [zins] at h
  unfold ztab at h
  split at h
  next xx t =>
    split at h
    next ho =>
      obtain ⟨ht, rfl⟩ := zjmp_ok C h
      intro H ls locs cells slots hR hS hL hc hs
      exact lv_tableOut C.1 C.2.1 hd ho ht (k H ls locs cells slots hR hS hL hc hs)
    next ho =>
      split at h
      next off hoff =>
        obtain ⟨ht, rfl⟩ := zjmp_ok C h
        intro H ls locs cells slots hR hS hL hc hs
        exact lv_tableIn C.1 C.2.1 hd (fun z => ho (Or.inl z)) (fun z => ho (Or.inr z)) hoff ht (k H ls locs cells slots hR hS hL hc hs)
      next => cases h
  next => cases h

theorem zg_look {dflt : Int} {ps : Array (Int × Int)} (C : zCtx p R s m args meth c y D cy kc ks) (hd : decode (zcode y) pc = .ok (.lookupswitch dflt ps, len)) (h : zins y pc (.lookupswitch dflt ps) len L st X = some (.inl q)) (k : zGo p l e R s m args below meth c Q D cy B b H0 X' kc ks q.1 q.2.1 q.2.2.1 q.2.2.2) : zGo p l e R s m args below meth c Q D cy B b H0 X' kc ks pc L st X := by
  simp only [zins] at h
  unfold zlook at h
  split at h
  next xx t =>
    split at h
    next ho =>
      obtain ⟨ht, rfl⟩ := zjmp_ok C h
      intro H ls locs cells slots hR hS hL hc hs
      exact lv_lookup C.1 C.2.1 hd ho rfl ht (k H ls locs cells slots hR hS hL hc hs)
    next => cases h
  next => cases h

end ZG
end
