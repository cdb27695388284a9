/-! arraycopy; calls; the whole run -/
section
set_option maxRecDepth 100000
theorem znn (z : Int32) (hz : ¬ z < 0) : z.toInt = (z.toNatClampNeg : Int) := by
  have hz0 : (0 : Int) ≤ z.toInt := by
    have := Int32.not_lt.mp hz
    simpa using Int32.le_iff_toInt_le.mp this
  show z.toInt = ((z.toInt.toNat : Nat) : Int)
  omega
def zWs (y : Nat) : List Cond := Cond.code (zname y) (zcode y) (zmaxL y) (zret y) :: zTb
def zRm (y mc ms : Nat) : Room := { frames := zfr y, cells := mc, slots := ms, locals := zlo y }
def zPc (D : va_G) (cy : FieldType → ClassId) (B b : Nat) (av : List Value) (X : zX) : Array Value → State → Prop := va_Pc (av.map (zsh B b)) (fun U => zKn D cy U ∧ zRep D cy B b U X U.heap)
def zQc (D : va_G) (cy : FieldType → ClassId) (B b : Nat) (r : Option Value) (X' : zX) : Array Value → State → Outcome → State → Prop := fun _ st oc t => oc = .returned (r.map (zsh B b)) ∧ zRep D cy B b t X' t.heap ∧ va_F (fun q => B ≤ q) st t
def zRt (y pc : Nat) (r : Option Value) : Prop := match r with
  | none => decode (zcode y) pc = .ok (.return_, 1) ∧ zret y = none
  | some (.int v) => decode (zcode y) pc = .ok (.ireturn, 1) ∧ ∃ ty, zret y = some ty ∧ narrow ty (.int v) = .int v
  | some (.long _) => decode (zcode y) pc = .ok (.lreturn, 1) ∧ zret y = some .long
  | _ => False
def zEnd (p : Program) (l : Launch) (e : Env) (R : Room) (s : State) (m : MethodId) (args : Array Value) (below : List Frame) (meth : Method) (c : Code) (Q : State → Prop) (D : va_G) (cy : FieldType → ClassId) (B b : Nat) (H0 : Heap) (y : Nat) (r : Option Value) (X' : zX) (kc ks : Nat) : Prop :=
  ∀ (H' : Heap) (ls' : Array Slot) (locs' : List Loc) (pc' : Nat), zRep D cy B b s X' H' → va_S (fun q => B ≤ q) H0 H' locs' → zRt y pc' r → W p l e R s m args below meth c H' locs' kc ks Q (F0 m pc' ls' (r.toList.map (zsh B b)))
def zSim (y pc : Nat) (L st : List Value) (X : zX) (r : Option Value) (X' : zX) : Prop :=
  X.1.length ≤ X'.1.length ∧ X.2.1 ≤ X'.2.1 ∧ ∀ (p : Program) (l : Launch) (e : Env) (R : Room) (s : State) (m : MethodId) (args : Array Value) (below : List Frame) (meth : Method) (c : Code) (Q : State → Prop) (D : va_G) (cy : FieldType → ClassId) (B b : Nat) (H0 : Heap) (kc ks : Nat),
    zCtx p R s m args meth c y D cy kc ks → L.length = zmaxL y → zEnd p l e R s m args below meth c Q D cy B b H0 y r X' kc ks → zGo p l e R s m args below meth c Q D cy B b H0 X' kc ks pc L st X
theorem zKn.warm {D : va_G} {cy : FieldType → ClassId} {s U : State} (h : zKn D cy s) (hW : s.WarmedH U.vm) : zKn D cy U := by
  refine ⟨va_K.moved hW.alike h.1, fun w hw => ?_, va_AO.moved hW.alike h.2.2⟩
  have h1 := h.2.1 w hw
  have h2 := (List.mem_filter.mp hw).2
  cases w <;> first | exact va_Nw.warmM hW h1 | cases h2
theorem zKn.same {D : va_G} {cy : FieldType → ClassId} {s U : State} (h : zKn D cy s) (hvm : s.vm = U.vm) : zKn D cy U := by
  have hal : s.vm.Alike U.vm := by rw [hvm]; exact Vm.Alike.refl U.vm
  refine ⟨va_K.moved hal h.1, fun w hw => ?_, va_AO.moved hal h.2.2⟩
  have h1 := h.2.1 w hw
  have h2 := (List.mem_filter.mp hw).2
  cases w <;> first | exact va_Nw.same rfl hvm h1 | cases h2
theorem zRep.to {D : va_G} {cy : FieldType → ClassId} {B b : Nat} {s U : State} {X : zX} {H H1 : Heap} (h : zRep D cy B b s X H) (hal : s.vm.Alike U.vm) (hH : H1 = H) : zRep D cy B b U X H1 := by
  subst hH
  exact ⟨h.1, h.2.1, h.2.2.1, h.2.2.2.moved hal⟩
theorem zPc_blind (D : va_G) (cy : FieldType → ClassId) (B b : Nat) (av : List Value) (X : zX) : FrameBlind (zPc D cy B b av X) := by
  intro a U g mk h
  exact ⟨h.1, h.2.1.same (U := U.calling g mk a) rfl, h.2.2.to (U := U.calling g mk a) (Vm.Alike.refl U.vm) rfl⟩
theorem zloc_len : ∀ (av : List Value) (B b : Nat), (lg_sl (av.map (zsh B b))).length = (zloc av).length
  | [], _, _ => rfl
  | v :: t, B, b => by
    have h := zloc_len t B b
    unfold zloc
    by_cases hc : v.category = 2
    · rw [if_pos hc]
      simp only [lg_sl, List.map_cons, List.flatMap_cons, zsh_cat, hc, List.length_append, List.length_cons] at h ⊢
      rw [h]
      simp
      omega
    · rw [if_neg hc]
      simp only [lg_sl, List.map_cons, List.flatMap_cons, zsh_cat, if_neg hc, List.length_append, List.length_cons] at h ⊢
      rw [h]
      simp
      omega
theorem zloc_mem (B b : Nat) : ∀ (av : List Value) (off i : Nat) (v : Value), (zloc av)[i]? = some v → zok v = true → (off + i, zsh B b v) ∈ lv_args off (av.map (zsh B b))
  | [], _, _, _, h, _ => by simp [zloc] at h
  | w :: t, off, i, v, h, hk => by
    unfold zloc at h
    rw [List.map_cons]
    unfold lv_args
    rw [zsh_cat]
    by_cases hc : w.category = 2
    · rw [if_pos hc] at h ⊢
      match i, h with
      | 0, h => cases h; exact List.mem_cons_self
      | 1, h => cases h; cases hk
      | j + 2, h =>
        have := zloc_mem B b t (off + 2) j v (by simpa using h) hk
        rw [show off + (j + 2) = off + 2 + j by omega]
        exact List.mem_cons_of_mem _ this
    · rw [if_neg hc] at h ⊢
      match i, h with
      | 0, h => cases h; exact List.mem_cons_self
      | j + 1, h =>
        have := zloc_mem B b t (off + 1) j v (by simpa using h) hk
        rw [show off + (j + 1) = off + 1 + j by omega]
        exact List.mem_cons_of_mem _ this
theorem zentry_len {n : Nat} {av : List Value} (h : (zloc av).length ≤ n) : (zentry n av).length = n := by
  simp [zentry]; omega
theorem zentry_Ls {B b n : Nat} {av : List Value} (h : (zloc av).length ≤ n) : zLs B b (zentry n av) ((lg_sl (av.map (zsh B b)) ++ List.replicate (n - (lg_sl (av.map (zsh B b))).length) Slot.unset).toArray) := by
  have h1 := lv_entry (av.map (zsh B b)) (n := n) (by rw [zloc_len]; exact h)
  refine ⟨by rw [h1.1, zentry_len h], h1.2.1, fun i v hi hk => ?_⟩
  refine h1.2.2 (i, zsh B b v) ?_
  unfold zentry at hi
  by_cases hl : i < (zloc av).length
  · rw [List.getElem?_append_left hl] at hi
    have := zloc_mem B b av 0 i v hi hk
    rwa [Nat.zero_add] at this
  · rw [List.getElem?_append_right (by omega)] at hi
    have := List.eq_of_mem_replicate (List.mem_of_getElem? hi)
    subst this
    cases hk
/-- a run of a method, as its contract -/
theorem zmet (l : Launch) {y : Nat} {av : List Value} {X X' : zX} {r : Option Value} (D : va_G) (cy : FieldType → ClassId) (B b : Nat) (hpl : plainName (zname y).cls = true) (hcls : (zname y).cls = zOn (zown y)) (hlen : (zloc av).length ≤ zmaxL y) (hS : zSim y 0 (zentry (zmaxL y) av) [] X r X') :
    Met l (zname y) (zWs y) (zRm y (X'.1.length - X.1.length) (X'.2.1 - X.2.1)) (zPc D cy B b av X) (zQc D cy B b r X') (X'.1.length - X.1.length) (X'.2.1 - X.2.1) (fun q => B ≤ q) := by
  refine Met.ofW (cc := zcode y) (maxL := zmaxL y) (ret := zret y) hpl rfl ?_
  intro p e s m args below meth c s₁ Bd hml hv
  obtain ⟨rfl, hK, hR⟩ := hv
  have hts : ∀ w ∈ zTb, w.before (av.map (zsh B b)).toArray s = true := fun w hw => atoms_spec (ws := zWs y) Bd.pre w (List.mem_cons_of_mem _ hw)
  have hown : s.vm.findClass (zname y).cls = some m.cls := findClass_of_methodNamed Bd.named
  have hnm := (name_of_methodNamed Bd.named Bd.method).1
  have C : zCtx p (zRm y (X'.1.length - X.1.length) (X'.2.1 - X.2.1)) s m (av.map (zsh B b)).toArray meth c y D cy (X'.1.length - X.1.length) (X'.2.1 - X.2.1) :=
    ⟨Bd.exec, Bd.bytes, Bd.returns, hml, by rw [← hcls]; exact hown, hts, hK, Bd.notSynchronized, fun h => hnm.trans h, Nat.le_refl _, Nat.le_refl _, Nat.le_refl _, Nat.le_refl _⟩
  rw [lg_entry_eq]
  refine hS.2.2 p l e (zRm y (X'.1.length - X.1.length) (X'.2.1 - X.2.1)) s m _ below meth c _ D cy B b s.heap _ _ C (zentry_len hlen) ?_ s.heap _ [] 0 0 hR va_S.rf (zentry_Ls hlen) ?_ ?_
  · intro H' ls' locs' pc' hR' hS' hrt
    have hend : ∀ t : State, t.heap = H' → s.WarmedH t.vm → zRep D cy B b t X' t.heap ∧ va_F (fun q => B ≤ q) s t := fun t ht hW => ⟨hR'.to hW.alike ht, hS'.F ht⟩
    match r, hrt, hend with
    | none, hrt, hend => exact W.vret C.1 C.2.1 (by rw [C.2.2.1]; exact hrt.2) (fun t ht hW => ⟨rfl, hend t ht hW⟩) hS'.2.2 hrt.1 C.2.2.2.2.2.2.2.1
    | some (.int v), hrt, hend =>
      obtain ⟨h1, ty, h2, h3⟩ := hrt
      exact W.zret (ty := ty) C.1 C.2.1 (by rw [C.2.2.1]; exact h2) h3 (fun t ht hW => ⟨rfl, hend t ht hW⟩) hS'.2.2 h1 C.2.2.2.2.2.2.2.1
    | some (.long v), hrt, hend => exact W.lret C.1 C.2.1 (by rw [C.2.2.1]; exact hrt.2) (fun t ht hW => ⟨rfl, hend t ht hW⟩) hS'.2.2 hrt.1 C.2.2.2.2.2.2.2.1
  · have := hS.1; omega
  · have := hS.2.1; omega
section ZG
variable {p : Program} {l : Launch} {e : Env} {R : Room} {s : State} {m : MethodId} {args : Array Value} {below : List Frame} {meth : Method} {c : Code} {Q : State → Prop} {y : Nat} {D : va_G} {cy : FieldType → ClassId} {B b : Nat} {H0 : Heap} {X' : zX} {kc ks : Nat}
variable {pc len : Nat} {L st : List Value} {X : zX} {q : Nat × List Value × List Value × zX}
theorem zcopy_ok {i : Nat} {y' : Nat} (C : zCtx p R s m args meth c y D cy kc ks) (hcal : zcal (zown y) i = some (5, y')) (hL0 : L.length = zmaxL y) (hd : decode (zcode y) pc = .ok (.invokestatic i, 3)) (h : zcopy y pc L st X = some (.inl q)) (k : zGo p l e R s m args below meth c Q D cy B b H0 X' kc ks q.1 q.2.1 q.2.2.1 q.2.2.2) : zGo p l e R s m args below meth c Q D cy B b H0 X' kc ks pc L st X := by
  unfold zcopy at h
  split at h
  next n dp a sp a0 t =>
    split at h
    next q0 q1 e0 e1 =>
      split at h
      next hv =>
        cases h
        obtain ⟨hsp, hst, hty, hpr, h1, h2, h3, h4, h5, hfit⟩ := hv
        intro H ls locs cells slots hR hS hL hc hs
        obtain ⟨ps, hps⟩ := zcal_find hcal
        have hw := zCt_ok _ hps
        unfold zCchk at hw
        split at hw
        next p0 p1 p2 p3 p4 _ =>
          simp [Bool.and_eq_true] at hw
          obtain ⟨f1, f2⟩ := zspec_ok C hsp
          have f3 := zst8_ok B b hst
          obtain ⟨t0, n0, f⟩ := q0
          obtain ⟨t1, n1, g⟩ := q1
          dsimp only at hty hpr h4 h5 hfit e0 e1 k
          subst hty
          have hAr : ArrOfT s (cy t0) t0 := by
            rcases hpr with rfl | rfl
            · exact (zK_int C.2.2.2.2.2.2.1).1
            · exact (zK_bool C.2.2.2.2.2.2.1).1
          have hrk : refKind t0 = false := by rcases hpr with rfl | rfl <;> rfl
          have hc0 := zA_at hR e0
          have hc1 := zA_at hR e1
          have hl : B + a < H.size := (Array.getElem?_eq_some_iff.mp hc1).1
          obtain ⟨-, k0, hk0, cm0, hkk0⟩ := hAr n0 (fun j => .int (f j))
          obtain ⟨-, k1, hk1, cm1, hkk1⟩ := hAr n1 (fun j => .int (g j))
          have hnw : nativeFrameWords "java/lang/System" "arraycopy" 5 = 7 := by decide
          intro T hT Z
          obtain ⟨vm', Z', step⟩ := Z.arraycopy C.1 C.2.2.2.2.1 (zin_tb C hw.1.1.1 rfl) (zin_tb C hw.1.2 rfl) (zin_tb C hw.1.1.2 rfl) (zin_tb C hw.2 rfl) (src := B + a0) (dst := B + a) (srcPos := sp) (destPos := dp) (n := n) (by rw [hT]; exact hc0) (by rw [hT]; exact hc1)
            (fun _ h => by cases h) (fun _ h => by cases h) (fun h => by cases h) (fun h => by cases h) hk0 hk1 hkk0 hkk1 (by simp [hrk]) h1 h2 h3
            (by rw [znn sp h1, znn n h3, arrV_size]; omega) (by rw [znn dp h2, znn n h3, arrV_size]; omega)
            (fun vm₁ _ i hi => by
              have e9 : (arrV (cy t0) n0 (fun j => Value.int (f j))).slots.getD (sp.toNatClampNeg + i) .null = .int (f (sp.toNatClampNeg + i)) := by
                rw [Array.getD_eq_getD_getElem?, arrV_read _ _ (by omega)]
                rfl
              exact ⟨by rw [e9]; exact hfit i hi, by rw [e9]; exact trivial⟩)
            (g := F0 m pc ls (.int n :: .int dp :: .ref (B + a) :: .int sp :: .ref (B + a0) :: t.map (zsh B b))) rfl (by rw [C.2.2.2.1, ← hL0]; exact hL.1) rfl (by rw [C.2.1]; exact hd) f1 (by show 2 * 0 + _ + _ ≤ _; rw [hnw]; omega)
          have e2 : copied (arrV (cy t0) n0 (fun j => Value.int (f j))) (arrV (cy t0) n1 (fun j => Value.int (g j))) sp dp n = arrV (cy t0) n1 (fun j => .int (va_cpy f g sp.toNatClampNeg dp.toNatClampNeg n.toNatClampNeg j)) := va_copied (fun z => .int z) (cy t0) (cy t0) f g h4
          rw [e2] at Z' step
          generalize hcell : arrV (cy t0) n1 (fun j => .int (va_cpy f g sp.toNatClampNeg dp.toNatClampNeg n.toNatClampNeg j)) = cl at Z' step
          have hheap : ((T.setVm vm').setCell (B + a) cl).heap = H.setIfInBounds (B + a) cl := by rw [← hT]; rfl
          obtain ⟨t2, a1, b1⟩ := k (H.setIfInBounds (B + a) cl) ls _ cells slots (zRep_set hR e1 (show (H.setIfInBounds (B + a) cl)[B + a]? = some (arrV (cy t0) n1 (fun j => .int (va_cpy f g sp.toNatClampNeg dp.toNatClampNeg n.toNatClampNeg j))) by rw [hcell]; simp [Array.getElem?_setIfInBounds, hl]) (by simp) (fun q hq => by simp [Array.getElem?_setIfInBounds, Ne.symm hq]))
            ⟨by simp; exact hS.1, fun q g1 g2 => by
              have hq : q ≠ B + a := fun e => g2 (by rw [e]; exact Nat.le_add_right B a)
              have : (H.setIfInBounds (B + a) cl)[q]? = H[q]? := by simp [Array.getElem?_setIfInBounds, Ne.symm hq]
              rw [this]
              exact hS.2.1 q g1 g2, fun q hq => by
              rcases List.mem_append.mp hq with h | h
              · exact hS.2.2 q h
              · obtain ⟨z, -, hz⟩ := List.mem_map.mp h
                rw [← hz]
                exact Nat.le_add_right B a⟩ hL (by rw [List.length_set]; exact hc) hs _ hheap Z'
          exact ⟨t2, step t2 a1, b1⟩
        next => cases hw
      next => cases h
    next => cases h
  next => cases h
/-- behind a call -/
theorem zcall_go {H : Heap} {locs : List Loc} {cells slots mc ms : Nat} {ls : Array Slot} {rest st0 : List Value} {a : Array Value} {r1 : Option Value} {X1 : zX} (hr : va_Run p l e R s m args below meth c H locs cells slots mc ms (F0 m pc ls st0) rest (zQc D cy B b r1 X1 a) (fun q => B ≤ q)) (hS : va_S (fun q => B ≤ q) H0 H locs)
    (kk : ∀ (H1 : Heap) (locs1 : List Loc), zRep D cy B b s X1 H1 → va_S (fun q => B ≤ q) H0 H1 locs1 → W p l e R s m args below meth c H1 locs1 (cells + mc) (slots + ms) Q (F0 m (pc + 3) ls ((r1.map (zsh B b)).toList ++ rest))) : W p l e R s m args below meth c H locs cells slots Q (F0 m pc ls st0) := by
  intro T hT Z
  obtain ⟨v, st₀, t, T', Lx, h0, Z', hL, e1, e2, ⟨hv, hrep, hz, hk⟩, st⟩ := hr T hT Z
  cases hv
  rw [h0] at hz hk
  have hal : s.vm.Alike t.vm := by rw [← e2]; exact Z'.warmed.alike
  obtain ⟨t2, a1, b1⟩ := kk T'.heap (locs ++ Lx) (hrep.to hal.symm e1) ⟨Nat.le_trans hS.1 (by rw [e1]; exact hz), fun q h1 h2 => by rw [e1, hk q (Nat.lt_of_lt_of_le h1 hS.1) h2]; exact hS.2.1 q h1 h2, fun q hq => by
    rcases List.mem_append.mp hq with h | h
    · exact hS.2.2 q h
    · exact hL q h⟩ T' rfl Z'
  exact ⟨t2, st t2 a1, b1⟩
theorem zws_pay (C : zCtx p R s m args meth c y D cy kc ks) {y' : Nat} (hy : y' < 70) : ∀ w ∈ zWs y', ∀ (a' : Array Value) (U : State), s.WarmedH U.vm → w.before a' U = true := by
  intro w hw a' U hW
  have hin : w ∈ zTb := by
    rcases List.mem_cons.mp hw with h | h
    · subst h; exact zTb_in (zY_code y' hy) rfl
    · exact h
  exact word_at hW (good_of_word (zTb_good w hin).2) (C.2.2.2.2.2.1 w hin)
/-- what the tables say of a call -/
theorem zcal_ok {o i k y' : Nat} (h : zcal o i = some (k, y')) (hk : k < 4) : (∃ n : Nat, lw_tbl[n]? = some (zLk o i k y')) ∧ (∃ n : Nat, lw_tbl[n]? = some (zCside k y')) ∧ (∃ n : Nat, lw_tbl[n]? = some (Cond.initialized (zname y').cls)) ∧ zYchk y' 0 = true ∧
    (k = 0 → (∃ n : Nat, lw_tbl[n]? = some (Cond.selects (zname y').cls (zname y') (zname y'))) ∧ zown y' < 6) ∧ (k = 2 ∨ k = 3 → (zname y').name = "<init>" ∧ zret y' = none) := by
  obtain ⟨ps, hps⟩ := zcal_find h
  have hw := zCt_ok _ hps
  unfold zCchk at hw
  split at hw
  next p0 p1 p2 p3 p4 _ =>
    dsimp only at hw
    rw [if_neg (by omega), if_neg (by omega), if_neg (by omega), if_neg (by omega)] at hw
    simp only [Bool.and_eq_true, decide_eq_true_eq] at hw
    obtain ⟨⟨⟨⟨⟨⟨-, a0⟩, a1⟩, a2⟩, a3⟩, a4⟩, a5⟩ := hw
    refine ⟨⟨_, a0⟩, ⟨_, a1⟩, ⟨_, a2⟩, a3, fun hk0 => ?_, fun hk2 => ?_⟩
    · rw [if_pos hk0] at a4
      simp only [Bool.and_eq_true, decide_eq_true_eq] at a4
      exact ⟨⟨_, a4.1.1⟩, a4.1.2⟩
    · rw [if_pos hk2] at a5
      simp only [Bool.and_eq_true, decide_eq_true_eq] at a5
      exact a5
  next => cases hw
theorem zYchk_ok {y' : Nat} (h : zYchk y' 0 = true) : y' < 70 ∧ ((zname y').cls ≠ "java/lang/invoke/MethodHandle" ∧ (zname y').cls ≠ "java/lang/invoke/VarHandle") ∧ (∀ sig, parseMethodDescriptor (zname y').desc = some sig → zna y' = sig.parameters.length) ∧ plainName (zname y').cls = true ∧ (zname y').cls = zOn (zown y') := by
  unfold zYchk zplain at h
  simp only [Bool.and_eq_true, decide_eq_true_eq] at h
  refine ⟨h.1.1.1.1, h.1.1.1.2, fun sig hs => ?_, h.1.2, h.2⟩
  have h2 := h.1.1.2
  rw [hs] at h2
  exact (Option.some.inj h2).symm
theorem zroom_ok (C : zCtx p R s m args meth c y D cy kc ks) {y' : Nat} (h : zroom y y' = true) : zfr y' + 1 ≤ R.frames ∧ 8 + (zmaxL y' + 11) + zlo y' ≤ R.locals := by
  simp only [zroom, Bool.and_eq_true, decide_eq_true_eq] at h
  have h1 := C.2.2.2.2.2.2.2.2.2.1
  have h2 := C.2.2.2.2.2.2.2.2.2.2.1
  omega
theorem zg_callS {i y' : Nat} {r1 : Option Value} {X1 : zX} {av : List Value} {t : List Value} (C : zCtx p R s m args meth c y D cy kc ks) (hL0 : L.length = zmaxL y) (hcal : zcal (zown y) i = some (1, y')) (hd : decode (zcode y) pc = .ok (.invokestatic i, 3)) (hroom : zroom y y' = true) (hn : av.length = zna y') (hst : st = av.reverse ++ t) (h8 : zst8 t = true) (hlen : (zloc av).length ≤ zmaxL y')
    (ih : zSim y' 0 (zentry (zmaxL y') av) [] X r1 X1) (hm : X1.1.length ≤ X'.1.length ∧ X1.2.1 ≤ X'.2.1) (k : zGo p l e R s m args below meth c Q D cy B b H0 X' kc ks (pc + 3) L (zpush r1 t) X1) : zGo p l e R s m args below meth c Q D cy B b H0 X' kc ks pc L st X := by
  intro H ls locs cells slots hR hS hL hc hs
  obtain ⟨⟨n0, w0⟩, ⟨n1, w1⟩, ⟨n2, w2⟩, hY, -, -⟩ := zcal_ok hcal (by decide)
  obtain ⟨hy, hpl, hsig, hpn, hcls⟩ := zYchk_ok hY
  obtain ⟨f1, f2⟩ := zroom_ok C hroom
  have hM := zmet l D cy B b hpn hcls hlen ih
  have hkc := C.2.2.2.2.2.2.2.2.2.2.2.1
  have hks := C.2.2.2.2.2.2.2.2.2.2.2.2
  have i1 := ih.1
  have i2 := ih.2.1
  subst hst
  refine zcall_go (rest := t.map (zsh B b)) (va_runS (As := av.map (zsh B b)) (n := zna y') ⟨C.1, C.2.1, C.2.2.2.1, C.2.2.2.2.1, C.2.2.2.2.2.1⟩ hM ⟨⟨rfl, rfl, f1, f2, zws_pay C hy, List.mem_cons_self, zin_tb C (zY_code y' hy) rfl, zin_tb C w2 rfl, hpl, hsig, zin_tb C w0 rfl⟩, zin_tb C w1 rfl⟩
    ⟨zPc_blind D cy B b av X, fun U hU hW => ⟨rfl, C.2.2.2.2.2.2.1.warm hW, hR.to hW.alike hU⟩⟩ rfl (by rw [List.length_map]; exact hn) (by rw [← hL0]; exact hL.1) (by rw [List.map_append, List.map_reverse]) (by show 2 * 0 + _ ≤ 8; have := zst8_ok B b h8; omega) hd ⟨by omega, by omega⟩) hS (fun H1 locs1 hR1 hS1 => ?_)
  have hk := k H1 ls locs1 (cells + (X1.1.length - X.1.length)) (slots + (X1.2.1 - X.2.1)) hR1 hS1 hL (by omega) (by omega)
  cases r1 <;> exact hk
theorem zg_callV {i y' a : Nat} {r1 : Option Value} {X1 : zX} {av : List Value} {t : List Value} (C : zCtx p R s m args meth c y D cy kc ks) (hL0 : L.length = zmaxL y) (hcal : zcal (zown y) i = some (0, y')) (hd : decode (zcode y) pc = .ok (.invokevirtual i, 3)) (hroom : zroom y y' = true) (hn : av.length = zna y') (hst : st = av.reverse ++ .ref a :: t) (h8 : zst8 t = true) (hO : zisO X.1 a (zown y') = true) (hlen : (zloc (.ref a :: av)).length ≤ zmaxL y')
    (ih : zSim y' 0 (zentry (zmaxL y') (.ref a :: av)) [] X r1 X1) (hm : X1.1.length ≤ X'.1.length ∧ X1.2.1 ≤ X'.2.1) (k : zGo p l e R s m args below meth c Q D cy B b H0 X' kc ks (pc + 3) L (zpush r1 t) X1) : zGo p l e R s m args below meth c Q D cy B b H0 X' kc ks pc L st X := by
  intro H ls locs cells slots hR hS hL hc hs
  obtain ⟨⟨n0, w0⟩, ⟨n1, w1⟩, ⟨n2, w2⟩, hY, hsel, -⟩ := zcal_ok hcal (by decide)
  obtain ⟨⟨n3, w3⟩, h7⟩ := hsel rfl
  obtain ⟨hy, hpl, hsig, hpn, hcls⟩ := zYchk_ok hY
  obtain ⟨f1, f2⟩ := zroom_ok C hroom
  have hM := zmet l D cy B b hpn hcls hlen ih
  have hkc := C.2.2.2.2.2.2.2.2.2.2.2.1
  have hks := C.2.2.2.2.2.2.2.2.2.2.2.2
  have i1 := ih.1
  have i2 := ih.2.1
  obtain ⟨fs, hfs⟩ := zisO_ok hO
  have hrec := va_recv C.2.2.2.2.2.2.1.1 hR.2.1 (zcl_at h7) (zW_get hfs)
  subst hst
  refine zcall_go (rest := t.map (zsh B b)) (va_runV (C := (zname y').cls) (As := av.map (zsh B b)) (n := zna y') ⟨C.1, C.2.1, C.2.2.2.1, C.2.2.2.2.1, C.2.2.2.2.2.1⟩ hM ⟨⟨rfl, rfl, f1, f2, zws_pay C hy, List.mem_cons_self, zin_tb C (zY_code y' hy) rfl, zin_tb C w2 rfl, hpl, hsig, zin_tb C w0 rfl⟩, zin_tb C w1 rfl, zin_tb C w3 rfl⟩
    ⟨zPc_blind D cy B b _ X, by rw [hcls]; exact hrec, fun U hU hW => ⟨rfl, C.2.2.2.2.2.2.1.warm hW, hR.to hW.alike hU⟩⟩ rfl (by rw [List.length_map]; exact hn) (by rw [← hL0]; exact hL.1) (by rw [List.map_append, List.map_reverse]; rfl) (by show 2 * 0 + _ ≤ 8; have := zst8_ok B b h8; omega) hd ⟨by omega, by omega⟩) hS (fun H1 locs1 hR1 hS1 => ?_)
  have hk := k H1 ls locs1 (cells + (X1.1.length - X.1.length)) (slots + (X1.2.1 - X.2.1)) hR1 hS1 hL (by omega) (by omega)
  cases r1 <;> exact hk
theorem zg_callI {i y' a : Nat} {r1 : Option Value} {X1 : zX} {av : List Value} {t : List Value} (C : zCtx p R s m args meth c y D cy kc ks) (hL0 : L.length = zmaxL y) (hcal : zcal (zown y) i = some (2, y')) (hd : decode (zcode y) pc = .ok (.invokespecial i, 3)) (hroom : zroom y y' = true) (hn : av.length = zna y') (hst : st = av.reverse ++ .ref a :: t) (h8 : zst8 t = true) (hlen : (zloc (.ref a :: av)).length ≤ zmaxL y')
    (ih : zSim y' 0 (zentry (zmaxL y') (.ref a :: av)) [] X r1 X1) (hm : X1.1.length ≤ X'.1.length ∧ X1.2.1 ≤ X'.2.1) (k : zGo p l e R s m args below meth c Q D cy B b H0 X' kc ks (pc + 3) L (zpush r1 t) X1) : zGo p l e R s m args below meth c Q D cy B b H0 X' kc ks pc L st X := by
  intro H ls locs cells slots hR hS hL hc hs
  obtain ⟨⟨n0, w0⟩, ⟨n1, w1⟩, ⟨n2, w2⟩, hY, -, hini⟩ := zcal_ok hcal (by decide)
  obtain ⟨hnm, hret⟩ := hini (Or.inl rfl)
  obtain ⟨hy, hpl, hsig, hpn, hcls⟩ := zYchk_ok hY
  obtain ⟨f1, f2⟩ := zroom_ok C hroom
  have hM := zmet l D cy B b hpn hcls hlen ih
  have hkc := C.2.2.2.2.2.2.2.2.2.2.2.1
  have hks := C.2.2.2.2.2.2.2.2.2.2.2.2
  have i1 := ih.1
  have i2 := ih.2.1
  have hcode := zin_tb C (zY_code y' hy) rfl
  rw [hret] at hcode
  subst hst
  refine zcall_go (rest := t.map (zsh B b)) (va_runI (bytes := zcode y') (maxL := zmaxL y') (As := av.map (zsh B b)) (n := zna y') ⟨C.1, C.2.1, C.2.2.2.1, C.2.2.2.2.1, C.2.2.2.2.2.1⟩ hM ⟨⟨rfl, rfl, f1, f2, zws_pay C hy, by rw [← hret]; exact List.mem_cons_self, hcode, zin_tb C w2 rfl, hpl, hsig, zin_tb C w0 rfl⟩, hnm, zin_tb C w1 rfl⟩
    ⟨zPc_blind D cy B b _ X, fun U hU hW => ⟨rfl, C.2.2.2.2.2.2.1.warm hW, hR.to hW.alike hU⟩⟩ rfl (by rw [List.length_map]; exact hn) (by rw [← hL0]; exact hL.1) (by rw [List.map_append, List.map_reverse]; rfl) (by show 2 * 0 + _ ≤ 8; have := zst8_ok B b h8; omega) hd ⟨by omega, by omega⟩) hS (fun H1 locs1 hR1 hS1 => ?_)
  have hk := k H1 ls locs1 (cells + (X1.1.length - X.1.length)) (slots + (X1.2.1 - X.2.1)) hR1 hS1 hL (by omega) (by omega)
  cases r1 <;> exact hk
theorem zg_callN {i y' a : Nat} {r1 : Option Value} {X1 : zX} {av : List Value} {t : List Value} (C : zCtx p R s m args meth c y D cy kc ks) (hL0 : L.length = zmaxL y) (hcal : zcal (zown y) i = some (3, y')) (hd : decode (zcode y) pc = .ok (.invokespecial i, 3)) (hroom : zroom y y' = true) (hn : av.length = zna y') (hst : st = av.reverse ++ .ref a :: t) (h8 : zst8 t = true) (hlen : (zloc (.ref a :: av)).length ≤ zmaxL y')
    (ih : zSim y' 0 (zentry (zmaxL y') (.ref a :: av)) [] X r1 X1) (hm : X1.1.length ≤ X'.1.length ∧ X1.2.1 ≤ X'.2.1) (k : zGo p l e R s m args below meth c Q D cy B b H0 X' kc ks (pc + 3) L (zpush r1 t) X1) : zGo p l e R s m args below meth c Q D cy B b H0 X' kc ks pc L st X := by
  intro H ls locs cells slots hR hS hL hc hs
  obtain ⟨⟨n0, w0⟩, ⟨n1, w1⟩, ⟨n2, w2⟩, hY, -, hini⟩ := zcal_ok hcal (by decide)
  obtain ⟨hnm, hret⟩ := hini (Or.inr rfl)
  obtain ⟨hy, hpl, hsig, hpn, hcls⟩ := zYchk_ok hY
  obtain ⟨f1, f2⟩ := zroom_ok C hroom
  have hM := zmet l D cy B b hpn hcls hlen ih
  have hkc := C.2.2.2.2.2.2.2.2.2.2.2.1
  have hks := C.2.2.2.2.2.2.2.2.2.2.2.2
  have i1 := ih.1
  have i2 := ih.2.1
  have hcode := zin_tb C (zY_code y' hy) rfl
  rw [hret] at hcode
  have hnst : Cond.methodLinkNest (zOn (zown y)) i (zname y') "StrawDraws" ∈ zNst := List.mem_filter.mpr ⟨List.mem_of_getElem? w0, rfl⟩
  have hlk : (Cond.methodLinkNest (zOn (zown y)) i (zname y') "StrawDraws").before args s = true := va_Nw.use rfl (C.2.2.2.2.2.2.1.2.1 _ hnst)
  subst hst
  refine zcall_go (rest := t.map (zsh B b)) (va_runIN (host := "StrawDraws") (bytes := zcode y') (maxL := zmaxL y') (As := av.map (zsh B b)) (n := zna y') ⟨C.1, C.2.1, C.2.2.2.1, C.2.2.2.2.1, C.2.2.2.2.2.1⟩ hM ⟨⟨⟨rfl, rfl, f1, f2, zws_pay C hy, by rw [← hret]; exact List.mem_cons_self⟩, hcode, zin_tb C w2 rfl, hpl, hsig, hlk⟩, hnm, zin_tb C w1 rfl⟩
    ⟨zPc_blind D cy B b _ X, fun U hU hW => ⟨rfl, C.2.2.2.2.2.2.1.warm hW, hR.to hW.alike hU⟩⟩ rfl (by rw [List.length_map]; exact hn) (by rw [← hL0]; exact hL.1) (by rw [List.map_append, List.map_reverse]; rfl) (by show 2 * 0 + _ ≤ 8; have := zst8_ok B b h8; omega) hd ⟨by omega, by omega⟩) hS (fun H1 locs1 hR1 hS1 => ?_)
  have hk := k H1 ls locs1 (cells + (X1.1.length - X.1.length)) (slots + (X1.2.1 - X.2.1)) hR1 hS1 hL (by omega) (by omega)
  cases r1 <;> exact hk
end ZG
end
