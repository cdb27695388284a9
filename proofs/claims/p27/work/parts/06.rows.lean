/-! rows (arrays), makings -/
section
set_option maxRecDepth 100000
section ZG
variable {p : Program} {l : Launch} {e : Env} {R : Room} {s : State} {m : MethodId} {args : Array Value} {below : List Frame} {meth : Method} {c : Code} {Q : State → Prop} {y : Nat} {D : va_G} {cy : FieldType → ClassId} {B b : Nat} {H0 : Heap} {X' : zX} {kc ks : Nat}
variable {pc len : Nat} {L st : List Value} {X : zX} {q : Nat × List Value × List Value × zX}
theorem zK_int (h : zKn D cy s) : ArrOfT s (cy .int) .int ∧ s.vm.findClass ("[" ++ FieldType.int.toString) = some (cy .int) := h.1.2 0 _ rfl
theorem zK_bool (h : zKn D cy s) : ArrOfT s (cy .boolean) .boolean ∧ s.vm.findClass ("[" ++ FieldType.boolean.toString) = some (cy .boolean) := h.1.2 1 _ rfl
theorem zK_char (h : zKn D cy s) : ArrOfT s (cy .char) .char ∧ s.vm.findClass ("[" ++ FieldType.char.toString) = some (cy .char) := h.1.2 2 _ rfl
theorem zK_ref (h : zKn D cy s) : ArrOfT s (cy zqT) zqT ∧ va_RA s (cy zqT) zqT := h.1.2 3 _ rfl
theorem zA_at {H : Heap} {a n : Nat} {ty : FieldType} {f : Nat → Int32} (hR : zRep D cy B b s X H) (h : X.1[a]? = some (zar ty n f)) : H[B + a]? = some (arrV (cy ty) n (fun j => .int (f j))) := hR.2.1 a _ (zW_get h)
theorem zR_at {H : Heap} {a n : Nat} {f : Nat → Option Nat} (hR : zRep D cy B b s X H) (h : X.1[a]? = some (zrr n f)) : H[B + a]? = some (arrV (cy zqT) n (fun j => va_rf ((f j).map (fun k => B + k)))) := hR.2.1 a _ (zW_get h)
theorem zinb_in {i : Int32} {n : Nat} (h : zinb i n = true) : vp_in i n := (zinb_iff i n).mp h
theorem zinb_lt {i : Int32} {n : Nat} (h : zinb i n = true) : i.toNatClampNeg < n := Nat.not_le.mp fun q => zinb_in h (Or.inr q)
theorem zg_iaload (C : zCtx p R s m args meth c y D cy kc ks) (hd : decode (zcode y) pc = .ok (.iaload, len)) (h : zins y pc .iaload len L st X = some (.inl q)) (k : zGo p l e R s m args below meth c Q D cy B b H0 X' kc ks q.1 q.2.1 q.2.2.1 q.2.2.2) : zGo p l e R s m args below meth c Q D cy B b H0 X' kc ks pc L st X := by
  simp only [zins] at h
  split at h
  next hl =>
    subst hl
    unfold zald at h
    split at h
    next i a t =>
      split at h
      next r hr =>
        split at h
        next hin =>
          cases h
          intro H ls locs cells slots hR hS hL hc hs
          exact W.iald (v := .int (r.2 i.toNatClampNeg)) C.1 C.2.1 (zA_at hR (zgA_ok hr)) ((zK_int C.2.2.2.2.2.2.1).1 r.1 (fun j => .int (r.2 j))) (fun q => by cases q) (by rw [arrV_size]; exact zinb_in hin) (by rw [arrV_read _ _ (zinb_lt hin)]) rfl rfl hd (k H ls locs cells slots hR hS hL hc hs)
        next => cases h
      next => cases h
    next i t =>
      split at h
      next hin =>
        cases h
        intro H ls locs cells slots hR hS hL hc hs
        obtain ⟨scr, g1, g2, g3, g4, g5⟩ := hR.2.2.2
        exact W.iald (v := .int (X.2.2.2 i.toNatClampNeg)) C.1 C.2.1 g1 g2 g3 (by rw [g4]; exact zinb_in hin.2) (g5 _ (zinb_lt hin.2)) rfl rfl hd (k H ls locs cells slots hR hS hL hc hs)
      next => cases h
    next => cases h
  next => cases h
theorem zg_baload (C : zCtx p R s m args meth c y D cy kc ks) (hd : decode (zcode y) pc = .ok (.baload, len)) (h : zins y pc (.baload) len L st X = some (.inl q)) (k : zGo p l e R s m args below meth c Q D cy B b H0 X' kc ks q.1 q.2.1 q.2.2.1 q.2.2.2) : zGo p l e R s m args below meth c Q D cy B b H0 X' kc ks pc L st X := by
  simp only [zins] at h
  split at h
  next hl =>
    subst hl
    unfold zald at h
    split at h
    next i a t =>
      split at h
      next r hr =>
        split at h
        next hin =>
          cases h
          intro H ls locs cells slots hR hS hL hc hs
          exact W.zald (v := .int (r.2 i.toNatClampNeg)) C.1 C.2.1 (zA_at hR (zgA_ok hr)) ((zK_bool C.2.2.2.2.2.2.1).1 r.1 (fun j => .int (r.2 j))) (fun q => by cases q) (by rw [arrV_size]; exact zinb_in hin) (by rw [arrV_read _ _ (zinb_lt hin)]) rfl rfl hd (k H ls locs cells slots hR hS hL hc hs)
        next => cases h
      next => cases h
    next i t =>
      split at h
      next hin => exact absurd hin.1 (by decide)
      next => cases h
    next => cases h
  next => cases h
theorem zg_caload (C : zCtx p R s m args meth c y D cy kc ks) (hd : decode (zcode y) pc = .ok (.caload, len)) (h : zins y pc (.caload) len L st X = some (.inl q)) (k : zGo p l e R s m args below meth c Q D cy B b H0 X' kc ks q.1 q.2.1 q.2.2.1 q.2.2.2) : zGo p l e R s m args below meth c Q D cy B b H0 X' kc ks pc L st X := by
  simp only [zins] at h
  split at h
  next hl =>
    subst hl
    unfold zald at h
    split at h
    next i a t =>
      split at h
      next r hr =>
        split at h
        next hin =>
          cases h
          intro H ls locs cells slots hR hS hL hc hs
          exact W.cald (v := .int (r.2 i.toNatClampNeg)) C.1 C.2.1 (zA_at hR (zgA_ok hr)) ((zK_char C.2.2.2.2.2.2.1).1 r.1 (fun j => .int (r.2 j))) (fun q => by cases q) (by rw [arrV_size]; exact zinb_in hin) (by rw [arrV_read _ _ (zinb_lt hin)]) rfl rfl hd (k H ls locs cells slots hR hS hL hc hs)
        next => cases h
      next => cases h
    next i t =>
      split at h
      next hin => exact absurd hin.1 (by decide)
      next => cases h
    next => cases h
  next => cases h
theorem zst_eq {A : ClassId} {n i : Nat} {f : Nat → Int32} {x y : Int32} {w : Value} (hw : w = .int y) : (arrV A n (fun j => .int (f j))).setSlot i w = arrV A n (fun j => .int (upd f i y j)) := by
  subst hw
  rw [arrV_store]
  congr 1
  funext q
  by_cases hq : q = i
  · subst hq
    simp [updV, upd]
  · simp [updV, upd, hq]
theorem zg_iastore (C : zCtx p R s m args meth c y D cy kc ks) (hd : decode (zcode y) pc = .ok (.iastore, len)) (h : zins y pc (.iastore) len L st X = some (.inl q)) (k : zGo p l e R s m args below meth c Q D cy B b H0 X' kc ks q.1 q.2.1 q.2.2.1 q.2.2.2) : zGo p l e R s m args below meth c Q D cy B b H0 X' kc ks pc L st X := by
  simp only [zins] at h
  split at h
  next hl =>
    subst hl
    unfold zast at h
    split at h
    next xx i a t =>
      split at h
      next r hr =>
        split at h
        next hin =>
          cases h
          intro H ls locs cells slots hR hS hL hc hs
          refine W.iast C.1 C.2.1 (zA_at hR (zgA_ok hr)) ((zK_int C.2.2.2.2.2.2.1).1 r.1 (fun j => .int (r.2 j))) (fun q => by cases q) (by rw [arrV_size]; exact zinb_in hin) rfl rfl hd fun H1 e1 e2 e3 => ?_
          refine k H1 ls _ cells slots (zRep_set hR (zgA_ok hr) ?_ e2 e3) (hS.put e2 e3 (Nat.le_add_right B a)) hL ?_ hs
          · show H1[B + a]? = some (arrV (cy .int) r.1 (fun j => .int (upd r.2 i.toNatClampNeg (vp_nar .int xx) j)))
            rw [e1]
            exact congrArg some (zst_eq (x := xx) rfl)
          · rw [List.length_set]; exact hc
        next => cases h
      next => cases h
    next => cases h
  next => cases h
theorem zg_bastore (C : zCtx p R s m args meth c y D cy kc ks) (hd : decode (zcode y) pc = .ok (.bastore, len)) (h : zins y pc (.bastore) len L st X = some (.inl q)) (k : zGo p l e R s m args below meth c Q D cy B b H0 X' kc ks q.1 q.2.1 q.2.2.1 q.2.2.2) : zGo p l e R s m args below meth c Q D cy B b H0 X' kc ks pc L st X := by
  simp only [zins] at h
  split at h
  next hl =>
    subst hl
    unfold zast at h
    split at h
    next xx i a t =>
      split at h
      next r hr =>
        split at h
        next hin =>
          cases h
          intro H ls locs cells slots hR hS hL hc hs
          refine W.zast C.1 C.2.1 (zA_at hR (zgA_ok hr)) ((zK_bool C.2.2.2.2.2.2.1).1 r.1 (fun j => .int (r.2 j))) (fun q => by cases q) (by rw [arrV_size]; exact zinb_in hin) rfl rfl hd fun H1 e1 e2 e3 => ?_
          refine k H1 ls _ cells slots (zRep_set hR (zgA_ok hr) ?_ e2 e3) (hS.put e2 e3 (Nat.le_add_right B a)) hL ?_ hs
          · show H1[B + a]? = some (arrV (cy .boolean) r.1 (fun j => .int (upd r.2 i.toNatClampNeg (vp_nar .boolean xx) j)))
            rw [e1]
            exact congrArg some (zst_eq (x := xx) rfl)
          · rw [List.length_set]; exact hc
        next => cases h
      next => cases h
    next => cases h
  next => cases h
theorem zg_castore (C : zCtx p R s m args meth c y D cy kc ks) (hd : decode (zcode y) pc = .ok (.castore, len)) (h : zins y pc (.castore) len L st X = some (.inl q)) (k : zGo p l e R s m args below meth c Q D cy B b H0 X' kc ks q.1 q.2.1 q.2.2.1 q.2.2.2) : zGo p l e R s m args below meth c Q D cy B b H0 X' kc ks pc L st X := by
  simp only [zins] at h
  split at h
  next hl =>
    subst hl
    unfold zast at h
    split at h
    next xx i a t =>
      split at h
      next r hr =>
        split at h
        next hin =>
          cases h
          intro H ls locs cells slots hR hS hL hc hs
          refine W.cast C.1 C.2.1 (zA_at hR (zgA_ok hr)) ((zK_char C.2.2.2.2.2.2.1).1 r.1 (fun j => .int (r.2 j))) (fun q => by cases q) (by rw [arrV_size]; exact zinb_in hin) rfl rfl hd fun H1 e1 e2 e3 => ?_
          refine k H1 ls _ cells slots (zRep_set hR (zgA_ok hr) ?_ e2 e3) (hS.put e2 e3 (Nat.le_add_right B a)) hL ?_ hs
          · show H1[B + a]? = some (arrV (cy .char) r.1 (fun j => .int (upd r.2 i.toNatClampNeg (vp_nar .char xx) j)))
            rw [e1]
            exact congrArg some (zst_eq (x := xx) rfl)
          · rw [List.length_set]; exact hc
        next => cases h
      next => cases h
    next => cases h
  next => cases h
theorem zg_aaload (C : zCtx p R s m args meth c y D cy kc ks) (hd : decode (zcode y) pc = .ok (.aaload, len)) (h : zins y pc (.aaload) len L st X = some (.inl q)) (k : zGo p l e R s m args below meth c Q D cy B b H0 X' kc ks q.1 q.2.1 q.2.2.1 q.2.2.2) : zGo p l e R s m args below meth c Q D cy B b H0 X' kc ks pc L st X := by
  simp only [zins] at h
  split at h
  next hl =>
    subst hl
    unfold zaald at h
    split at h
    next i a t =>
      split at h
      next r hr =>
        split at h
        next hin =>
          split at h
          next w hw =>
            cases h
            intro H ls locs cells slots hR hS hL hc hs
            exact W.aald (v := .ref (B + w)) (ty := zqT) C.1 C.2.1 (zR_at hR (zgR_ok hr)) ((zK_ref C.2.2.2.2.2.2.1).1 r.1 (fun j => va_rf ((r.2 j).map (fun k => B + k)))) rfl (fun q => by cases q) (by rw [arrV_size]; exact zinb_in hin) (by rw [arrV_read _ _ (zinb_lt hin), hw]; rfl) rfl rfl hd (k H ls locs cells slots hR hS hL hc hs)
          next => cases h
        next => cases h
      next => cases h
    next => cases h
  next => cases h
theorem zg_aastore (C : zCtx p R s m args meth c y D cy kc ks) (hd : decode (zcode y) pc = .ok (.aastore, len)) (h : zins y pc (.aastore) len L st X = some (.inl q)) (k : zGo p l e R s m args below meth c Q D cy B b H0 X' kc ks q.1 q.2.1 q.2.2.1 q.2.2.2) : zGo p l e R s m args below meth c Q D cy B b H0 X' kc ks pc L st X := by
  simp only [zins] at h
  split at h
  next hl =>
    subst hl
    unfold zaast at h
    split at h
    next w i a t =>
      split at h
      next r hr =>
        split at h
        next hin =>
          cases h
          intro H ls locs cells slots hR hS hL hc hs
          obtain ⟨fs, hfs⟩ := zisO_ok hin.2
          obtain ⟨r', hr', cellV, g1, g2, g3, -⟩ := hR.2.1 w _ (zW_get hfs)
          have hK := C.2.2.2.2.2.2.1
          have hcls := (hK.1.1 3 _ (zcl_at (c := 3) (by decide))).2
          obtain ⟨kA, comp, k1, k2, k3, -⟩ := (zK_ref hK).2
          have hcomp : comp = D.1 3 := Option.some.inj (k3.symm.trans hcls.1)
          subst hcomp
          obtain ⟨kC, hkC, -⟩ := id hcls.2
          have h0 : ¬ i < 0 := fun q => zinb_in hin.1 (Or.inl q)
          refine W.aast C.1 C.2.1 (zR_at hR (zgR_ok hr)) (fun q h => by cases h) (fun h => by cases h) k1 k2 rfl hkC ⟨h0, by rw [arrV_size]; exact zinb_lt hin.1⟩ g1 (fun q h => by rw [g3] at h; cases h) (by rw [g2]; exact hkC) (by rw [g2]; exact va_assign hcls) rfl rfl hd fun H1 e1 e2 e3 => ?_
          refine k H1 ls _ cells slots (zRep_set hR (zgR_ok hr) ?_ e2 e3) (hS.put e2 e3 (Nat.le_add_right B a)) hL ?_ hs
          · show H1[B + a]? = some (arrV (cy zqT) r.1 (fun j => va_rf ((va_up r.2 i.toNatClampNeg (some w) j).map (fun k => B + k))))
            rw [e1, arrV_store]
            congr 2
            funext q
            by_cases hq : q = i.toNatClampNeg
            · subst hq
              simp [updV, va_up, va_rf]
            · simp [updV, va_up, hq]
          · rw [List.length_set]; exact hc
        next => cases h
      next => cases h
    next => cases h
  next => cases h
theorem zg_arraylength (C : zCtx p R s m args meth c y D cy kc ks) (hd : decode (zcode y) pc = .ok (.arraylength, len)) (h : zins y pc (.arraylength) len L st X = some (.inl q)) (k : zGo p l e R s m args below meth c Q D cy B b H0 X' kc ks q.1 q.2.1 q.2.2.1 q.2.2.2) : zGo p l e R s m args below meth c Q D cy B b H0 X' kc ks pc L st X := by
  simp only [zins] at h
  split at h
  next hl =>
    subst hl
    unfold zalen at h
    split at h
    next a t =>
      split at h
      next r hr =>
        cases h
        intro H ls locs cells slots hR hS hL hc hs
        exact W.alen (n := Int32.ofNat r.1) C.1 C.2.1 (zA_at hR (zgA_ok hr)) ((zK_int C.2.2.2.2.2.2.1).1 r.1 (fun j => .int (r.2 j))) (by rw [arrV_size]) rfl rfl hd (k H ls locs cells slots hR hS hL hc hs)
      next => cases h
    next t =>
      cases h
      intro H ls locs cells slots hR hS hL hc hs
      obtain ⟨scr, g1, g2, g3, g4, g5⟩ := hR.2.2.2
      exact W.alen (n := Int32.ofNat X.2.2.1) C.1 C.2.1 g1 g2 (by rw [g4]) rfl rfl hd (k H ls locs cells slots hR hS hL hc hs)
    next => cases h
  next => cases h
theorem znew_ok {o i c : Nat} (h : znew o i = some c) : (∃ n : Nat, lw_tbl[n]? = some (Cond.classLink (zOn o) i (zOn c))) ∧ (∃ n : Nat, lw_tbl[n]? = some (Cond.instantiable (zOn c) (zNF c))) ∧ (∃ n : Nat, lw_tbl[n]? = some (Cond.initialized (zOn c))) ∧ c < 6 := by
  obtain ⟨r, h1, h2⟩ := Option.map_eq_some_iff.mp h
  have h3 := List.find?_some h1
  have h4 := zNt_ok r (List.mem_of_find?_eq_some h1)
  simp only [Bool.and_eq_true, beq_iff_eq] at h3
  obtain ⟨⟨a1, a2⟩, a3, a4⟩ := r
  obtain ⟨e1, e2⟩ := h3
  dsimp only at e1 e2 h2
  subst e1; subst e2; subst h2
  unfold zNchk at h4
  split at h4
  next p0 p1 p2 _ =>
    simp only [Bool.and_eq_true, decide_eq_true_eq] at h4
    exact ⟨⟨_, h4.1.1.1⟩, ⟨_, h4.1.1.2⟩, ⟨_, h4.1.2⟩, h4.2⟩
  next => cases h4
theorem zsh_def (B b : Nat) (t : FieldType) : zsh B b (defaultValue t) = defaultValue t := by cases t <;> rfl
theorem zg_new {i : Nat} (C : zCtx p R s m args meth c y D cy kc ks) (hd : decode (zcode y) pc = .ok (.new i, len)) (h : zins y pc (.new i) len L st X = some (.inl q)) (hm : q.2.2.2.1.length ≤ X'.1.length ∧ q.2.2.2.2.1 ≤ X'.2.1) (k : zGo p l e R s m args below meth c Q D cy B b H0 X' kc ks q.1 q.2.1 q.2.2.1 q.2.2.2) : zGo p l e R s m args below meth c Q D cy B b H0 X' kc ks pc L st X := by
  simp only [zins] at h
  split at h
  next hl =>
    subst hl
    unfold znewo at h
    split at h
    next cc hcc =>
      cases h
      intro H ls locs cells slots hR hS hL hc hs
      obtain ⟨⟨n0, w0⟩, ⟨n1, w1⟩, ⟨n2, w2⟩, h7⟩ := znew_ok hcc
      have hK := C.2.2.2.2.2.2.1
      have hKn := hK.1.1 cc _ (zcl_at h7)
      have hts := C.2.2.2.2.2.1
      have hl1 : (X.1 ++ [zob cc ((List.range (zNF cc)).map (fun k => defaultValue (ztt cc k)))]).length = X.1.length + 1 := by simp
      dsimp only at hm
      rw [hl1] at hm
      have hkc := C.2.2.2.2.2.2.2.2.2.2.2.1
      have hks := C.2.2.2.2.2.2.2.2.2.2.2.2
      refine W.newcK C.1 C.2.1 C.2.2.2.2.1 (zin_tb C w0 rfl) (zin_tb C w1 rfl) (zin_tb C w2 rfl) rfl hd (by omega) (by omega) hKn.2.1 hR.1 fun H1 kC hkC e1 z1 o1 => ?_
      refine k H1 ls locs (cells + 1) (slots + zNF cc) (zRep_push hR ?_ z1 o1) ⟨by rw [z1]; have := hS.1; have := hR.1; omega, fun q g1 g2 => ?_, hS.2.2⟩ hL ?_ ?_
      · refine ⟨_, zcl_at h7, (u_born (ztt cc) hts (zcl_in h7) hKn hkC e1 (zcl_ty h7)).to (fun j hj => ?_)⟩
        show defaultValue (ztt cc j) = vp_V (List.map (zsh B b) _) j
        simp [vp_V, hj, zsh_def]
      · have g3 : q < H.size := Nat.lt_of_lt_of_le g1 hS.1
        rw [o1 q (by rw [← hR.1]; exact g3)]
        exact hS.2.1 q g1 g2
      · rw [hl1]; omega
      · dsimp only; omega
    next => cases h
  next => cases h
theorem zarr_word : (∃ n : Nat, lw_tbl[n]? = some (Cond.arrayClass .int)) ∧ (∃ n : Nat, lw_tbl[n]? = some (Cond.arrayClass .boolean)) ∧ (∃ n : Nat, lw_tbl[n]? = some (Cond.arrayClass .char)) := ⟨⟨97, by rfl⟩, ⟨98, by rfl⟩, ⟨158, by rfl⟩⟩
theorem zg_newarray_int (C : zCtx p R s m args meth c y D cy kc ks) (hd : decode (zcode y) pc = .ok (.newarray .int, len)) (h : zins y pc (.newarray .int) len L st X = some (.inl q)) (hm : q.2.2.2.1.length ≤ X'.1.length ∧ q.2.2.2.2.1 ≤ X'.2.1) (k : zGo p l e R s m args below meth c Q D cy B b H0 X' kc ks q.1 q.2.1 q.2.2.1 q.2.2.2) : zGo p l e R s m args below meth c Q D cy B b H0 X' kc ks pc L st X := by
  simp only [zins] at h
  split at h
  next hl =>
    subst hl
    unfold znewa at h
    split at h
    next nn t =>
      split at h
      next hv =>
        cases h
        intro H ls locs cells slots hR hS hL hc hs
        obtain ⟨n0, w0⟩ := zarr_word.1
        have hK := C.2.2.2.2.2.2.1
        have hl1 : (X.1 ++ [zar .int nn.toNatClampNeg (fun _ => 0)]).length = X.1.length + 1 := by simp
        dsimp only at hm
        rw [hl1] at hm
        have hkc := C.2.2.2.2.2.2.2.2.2.2.2.1
        have hks := C.2.2.2.2.2.2.2.2.2.2.2.2
        refine va_newaK (atype := .int) C.1 C.2.1 (zin_tb C w0 rfl) rfl hd rfl hv.1 rfl (by have : componentBytes (newarray.typeOf .int) ≤ 8 := (by decide); have := Nat.mul_le_mul hv.2 this; omega) (by omega) (by omega) hR.1 fun H1 cA e1 z1 o1 hA hF => ?_
        have hcA : cA = cy .int := Option.some.inj (hF.symm.trans (zK_int hK).2)
        subst hcA
        refine k H1 ls locs (cells + 1) (slots + nn.toNatClampNeg) (zRep_push hR e1 z1 o1) ⟨by rw [z1]; have := hS.1; have := hR.1; omega, fun q g1 g2 => ?_, hS.2.2⟩ hL ?_ ?_
        · have g3 : q < H.size := Nat.lt_of_lt_of_le g1 hS.1
          rw [o1 q (by rw [← hR.1]; exact g3)]
          exact hS.2.1 q g1 g2
        · rw [hl1]; omega
        · dsimp only; omega
      next => cases h
    next => cases h
  next => cases h
theorem zg_newarray_boolean (C : zCtx p R s m args meth c y D cy kc ks) (hd : decode (zcode y) pc = .ok (.newarray .boolean, len)) (h : zins y pc (.newarray .boolean) len L st X = some (.inl q)) (hm : q.2.2.2.1.length ≤ X'.1.length ∧ q.2.2.2.2.1 ≤ X'.2.1) (k : zGo p l e R s m args below meth c Q D cy B b H0 X' kc ks q.1 q.2.1 q.2.2.1 q.2.2.2) : zGo p l e R s m args below meth c Q D cy B b H0 X' kc ks pc L st X := by
  simp only [zins] at h
  split at h
  next hl =>
    subst hl
    unfold znewa at h
    split at h
    next nn t =>
      split at h
      next hv =>
        cases h
        intro H ls locs cells slots hR hS hL hc hs
        obtain ⟨n0, w0⟩ := zarr_word.2.1
        have hK := C.2.2.2.2.2.2.1
        have hl1 : (X.1 ++ [zar .boolean nn.toNatClampNeg (fun _ => 0)]).length = X.1.length + 1 := by simp
        dsimp only at hm
        rw [hl1] at hm
        have hkc := C.2.2.2.2.2.2.2.2.2.2.2.1
        have hks := C.2.2.2.2.2.2.2.2.2.2.2.2
        refine va_newaK (atype := .boolean) C.1 C.2.1 (zin_tb C w0 rfl) rfl hd rfl hv.1 rfl (by have : componentBytes (newarray.typeOf .boolean) ≤ 8 := (by decide); have := Nat.mul_le_mul hv.2 this; omega) (by omega) (by omega) hR.1 fun H1 cA e1 z1 o1 hA hF => ?_
        have hcA : cA = cy .boolean := Option.some.inj (hF.symm.trans (zK_bool hK).2)
        subst hcA
        refine k H1 ls locs (cells + 1) (slots + nn.toNatClampNeg) (zRep_push hR e1 z1 o1) ⟨by rw [z1]; have := hS.1; have := hR.1; omega, fun q g1 g2 => ?_, hS.2.2⟩ hL ?_ ?_
        · have g3 : q < H.size := Nat.lt_of_lt_of_le g1 hS.1
          rw [o1 q (by rw [← hR.1]; exact g3)]
          exact hS.2.1 q g1 g2
        · rw [hl1]; omega
        · dsimp only; omega
      next => cases h
    next => cases h
  next => cases h
theorem zg_newarray_char (C : zCtx p R s m args meth c y D cy kc ks) (hd : decode (zcode y) pc = .ok (.newarray .char, len)) (h : zins y pc (.newarray .char) len L st X = some (.inl q)) (hm : q.2.2.2.1.length ≤ X'.1.length ∧ q.2.2.2.2.1 ≤ X'.2.1) (k : zGo p l e R s m args below meth c Q D cy B b H0 X' kc ks q.1 q.2.1 q.2.2.1 q.2.2.2) : zGo p l e R s m args below meth c Q D cy B b H0 X' kc ks pc L st X := by
  simp only [zins] at h
  split at h
  next hl =>
    subst hl
    unfold znewa at h
    split at h
    next nn t =>
      split at h
      next hv =>
        cases h
        intro H ls locs cells slots hR hS hL hc hs
        obtain ⟨n0, w0⟩ := zarr_word.2.2
        have hK := C.2.2.2.2.2.2.1
        have hl1 : (X.1 ++ [zar .char nn.toNatClampNeg (fun _ => 0)]).length = X.1.length + 1 := by simp
        dsimp only at hm
        rw [hl1] at hm
        have hkc := C.2.2.2.2.2.2.2.2.2.2.2.1
        have hks := C.2.2.2.2.2.2.2.2.2.2.2.2
        refine va_newaK (atype := .char) C.1 C.2.1 (zin_tb C w0 rfl) rfl hd rfl hv.1 rfl (by have : componentBytes (newarray.typeOf .char) ≤ 8 := (by decide); have := Nat.mul_le_mul hv.2 this; omega) (by omega) (by omega) hR.1 fun H1 cA e1 z1 o1 hA hF => ?_
        have hcA : cA = cy .char := Option.some.inj (hF.symm.trans (zK_char hK).2)
        subst hcA
        refine k H1 ls locs (cells + 1) (slots + nn.toNatClampNeg) (zRep_push hR e1 z1 o1) ⟨by rw [z1]; have := hS.1; have := hR.1; omega, fun q g1 g2 => ?_, hS.2.2⟩ hL ?_ ?_
        · have g3 : q < H.size := Nat.lt_of_lt_of_le g1 hS.1
          rw [o1 q (by rw [← hR.1]; exact g3)]
          exact hS.2.1 q g1 g2
        · rw [hl1]; omega
        · dsimp only; omega
      next => cases h
    next => cases h
  next => cases h
theorem zg_anewarray {i : Nat} (C : zCtx p R s m args meth c y D cy kc ks) (hd : decode (zcode y) pc = .ok (.anewarray i, len)) (h : zins y pc (.anewarray i) len L st X = some (.inl q)) (hm : q.2.2.2.1.length ≤ X'.1.length ∧ q.2.2.2.2.1 ≤ X'.2.1) (k : zGo p l e R s m args below meth c Q D cy B b H0 X' kc ks q.1 q.2.1 q.2.2.1 q.2.2.2) : zGo p l e R s m args below meth c Q D cy B b H0 X' kc ks pc L st X := by
  simp only [zins] at h
  split at h
  next hl =>
    subst hl
    unfold znewr at h
    split at h
    next nn t =>
      split at h
      next hv =>
        cases h
        intro H ls locs cells slots hR hS hL hc hs
        obtain ⟨⟨n0, w0⟩, -, -, -⟩ := znew_ok hv.1
        have hK := C.2.2.2.2.2.2.1
        have hl1 : (X.1 ++ [zrr nn.toNatClampNeg (fun _ => none)]).length = X.1.length + 1 := by simp
        dsimp only at hm
        rw [hl1] at hm
        have hkc := C.2.2.2.2.2.2.2.2.2.2.2.1
        have hks := C.2.2.2.2.2.2.2.2.2.2.2.2
        refine W.anew (C := "StrawDraws$State") C.1 C.2.1 C.2.2.2.2.1 (zin_tb C w0 rfl) (va_AO.use hK.2.2) rfl hd rfl hv.2.1 (by omega) (by omega) (by omega) fun cA kA comp f1 f2 f3 f4 => ?_
        have hcA : cA = cy zqT := by
          obtain ⟨kA', comp', -, -, -, f5⟩ := (zK_ref hK).2
          exact Option.some.inj (f1.symm.trans f5)
        subst hcA
        generalize hH1 : H.push ({ cls := cy zqT, slots := Array.replicate nn.toNatClampNeg .null, vm := .none } : Cell) = H1
        have z1 : H1.size = B + X.1.length + 1 := by rw [← hH1, Array.size_push, hR.1]
        have e1 : H1[B + X.1.length]? = some (arrV (cy zqT) nn.toNatClampNeg (fun _ => .null)) := by rw [← hH1, ← hR.1, Array.getElem?_push_size, ← arrV_new]
        have o1 : ∀ q : Nat, q < B + X.1.length → H1[q]? = H[q]? := fun q hq => by rw [← hH1, Array.getElem?_push, if_neg (Nat.ne_of_lt (by rw [hR.1]; exact hq))]
        have hk := k H1 ls locs (cells + 1) (slots + nn.toNatClampNeg) (zRep_push hR e1 z1 o1) ⟨by rw [z1]; have := hS.1; have := hR.1; omega, fun q g1 g2 => by
          have g3 : q < H.size := Nat.lt_of_lt_of_le g1 hS.1
          rw [o1 q (by rw [← hR.1]; exact g3)]
          exact hS.2.1 q g1 g2, hS.2.2⟩ hL (by rw [hl1]; omega) (by dsimp only; omega)
        rw [hR.1]
        exact hk
      next => cases h
    next => cases h
  next => cases h
theorem zcal_find {o i k y' : Nat} (h : zcal o i = some (k, y')) : ∃ ps, ((o, i), (k, y'), ps) ∈ zCt := by
  obtain ⟨r, h1, h2⟩ := Option.map_eq_some_iff.mp h
  have h3 := List.find?_some h1
  have h4 := List.mem_of_find?_eq_some h1
  simp only [Bool.and_eq_true, beq_iff_eq] at h3
  obtain ⟨⟨a1, a2⟩, a3, a4⟩ := r
  obtain ⟨e1, e2⟩ := h3
  dsimp only at e1 e2 h2
  subst e1; subst e2; subst h2
  exact ⟨a4, h4⟩
theorem zspec_ok (C : zCtx p R s m args meth c y D cy kc ks) (h : zspec y = true) : 1 ≤ R.frames ∧ 26 ≤ R.locals := by
  simp only [zspec, Bool.and_eq_true, decide_eq_true_eq] at h
  have h1 := C.2.2.2.2.2.2.2.2.2.1
  have h2 := C.2.2.2.2.2.2.2.2.2.2.1
  omega
theorem zst8_ok (B b : Nat) {st : List Value} (h : zst8 st = true) : ((st.map (zsh B b)).map fun v => v.category).sum ≤ 8 := by
  rw [zsh_sum]
  exact of_decide_eq_true h
theorem zmax_ok {i : Nat} {y' : Nat} (C : zCtx p R s m args meth c y D cy kc ks) (hcal : zcal (zown y) i = some (6, y')) (hL0 : L.length = zmaxL y) (hd : decode (zcode y) pc = .ok (.invokestatic i, 3)) (h : zmax y pc L st X = some (.inl q)) (hm : X.1.length ≤ X'.1.length ∧ X.2.1 ≤ X'.2.1) (k : zGo p l e R s m args below meth c Q D cy B b H0 X' kc ks q.1 q.2.1 q.2.2.1 q.2.2.2) : zGo p l e R s m args below meth c Q D cy B b H0 X' kc ks pc L st X := by
  unfold zmax at h
  split at h
  next bb aa t =>
    split at h
    next hv =>
      cases h
      intro H ls locs cells slots hR hS hL hc hs
      obtain ⟨ps, hps⟩ := zcal_find hcal
      have h4 := zCt_ok _ hps
      unfold zCchk at h4
      split at h4
      next p0 p1 p2 p3 p4 _ =>
        simp [Bool.and_eq_true] at h4
        obtain ⟨f1, f2⟩ := zspec_ok C hv.1
        have hkc := C.2.2.2.2.2.2.2.2.2.2.2.1
        have hks := C.2.2.2.2.2.2.2.2.2.2.2.2
        have := zst8_ok B b hv.2
        exact va_mmax C.1 C.2.1 (by rw [C.2.2.2.1, hL.1, hL0]) C.2.2.2.2.1 (zin_tb C h4.1.1.1 rfl) (zin_tb C h4.1.1.2 rfl) (zin_tb C h4.1.2 rfl) (zin_tb C h4.2 rfl) f1 (by omega) (by omega) (by omega) hd (k H ls locs cells slots hR hS hL hc hs)
      next => cases h4
    next => cases h
  next => cases h
theorem zabs_ok {i : Nat} {y' : Nat} (C : zCtx p R s m args meth c y D cy kc ks) (hcal : zcal (zown y) i = some (7, y')) (hL0 : L.length = zmaxL y) (hd : decode (zcode y) pc = .ok (.invokestatic i, 3)) (h : zabs y pc L st X = some (.inl q)) (hm : X.1.length ≤ X'.1.length ∧ X.2.1 ≤ X'.2.1) (k : zGo p l e R s m args below meth c Q D cy B b H0 X' kc ks q.1 q.2.1 q.2.2.1 q.2.2.2) : zGo p l e R s m args below meth c Q D cy B b H0 X' kc ks pc L st X := by
  unfold zabs at h
  split at h
  next aa t =>
    split at h
    next hv =>
      cases h
      intro H ls locs cells slots hR hS hL hc hs
      obtain ⟨ps, hps⟩ := zcal_find hcal
      have h4 := zCt_ok _ hps
      unfold zCchk at h4
      split at h4
      next p0 p1 p2 p3 p4 _ =>
        simp [Bool.and_eq_true] at h4
        obtain ⟨f1, f2⟩ := zspec_ok C hv.1
        have hkc := C.2.2.2.2.2.2.2.2.2.2.2.1
        have hks := C.2.2.2.2.2.2.2.2.2.2.2.2
        have := zst8_ok B b hv.2
        exact va_mabs C.1 C.2.1 (by rw [C.2.2.2.1, hL.1, hL0]) C.2.2.2.2.1 (zin_tb C h4.1.1.1 rfl) (zin_tb C h4.1.1.2 rfl) (zin_tb C h4.1.2 rfl) (zin_tb C h4.2 rfl) f1 (by omega) (by omega) (by omega) hd (k H ls locs cells slots hR hS hL hc hs)
      next => cases h4
    next => cases h
  next => cases h
theorem zinit_ok {i : Nat} {y' : Nat} (C : zCtx p R s m args meth c y D cy kc ks) (hcal : zcal (zown y) i = some (4, y')) (hL0 : L.length = zmaxL y) (hd : decode (zcode y) pc = .ok (.invokespecial i, 3)) (h : zinit y pc L st X = some (.inl q)) (k : zGo p l e R s m args below meth c Q D cy B b H0 X' kc ks q.1 q.2.1 q.2.2.1 q.2.2.2) : zGo p l e R s m args below meth c Q D cy B b H0 X' kc ks pc L st X := by
  unfold zinit at h
  split at h
  next aa t =>
    split at h
    next hv =>
      cases h
      intro H ls locs cells slots hR hS hL hc hs
      obtain ⟨ps, hps⟩ := zcal_find hcal
      have h4 := zCt_ok _ hps
      unfold zCchk at h4
      split at h4
      next p0 p1 p2 p3 p4 _ =>
        simp [Bool.and_eq_true] at h4
        obtain ⟨f1, f2⟩ := zspec_ok C hv.1
        have := zst8_ok B b hv.2
        exact W.objInit C.1 C.2.1 C.2.2.2.2.1 (zin_tb C h4.1.1 rfl) (zin_tb C h4.1.2 rfl) (zin_tb C h4.2 rfl) rfl (by rw [C.2.2.2.1, ← hL0]; exact hL.1) rfl hd f1 (by show 2 * 0 + _ + 12 ≤ _; omega) (k H ls locs cells slots hR hS hL hc hs)
      next => cases h4
    next => cases h
  next => cases h
end ZG
end
