/-! the small machine's steps as equations; kinds of instruction -/
section
set_option maxRecDepth 100000
theorem zdec {y : Nat} {T : List (Nat × (Instr × Nat))} (hT : T.all (fun q => decide (decode (zcode y) q.1 = .ok q.2)) = true) (i : Nat) {q : Nat × (Instr × Nat)} (h : T[i]? = some q) : decode (zcode y) q.1 = .ok q.2 := of_decide_eq_true (List.all_eq_true.mp hT q (List.mem_of_getElem? h))
section ZK
variable {y pc tgt : Nat} {L st : List Value} {X : zX} {h : List zC} {z : Nat × (Nat × (Nat → Int32))} {i : Instr} {len : Nat}
theorem zk_ins (hd : decode (zcode y) pc = .ok (i, len)) : zstep y pc L st X = zins y pc i len L st X := by
  unfold zstep
  rw [hd]
theorem zk_next {pc' : Nat} {L' st' : List Value} {X' : zX} (hd : decode (zcode y) pc = .ok (i, len)) (hz : zins y pc i len L st X = zN pc' L' st' X') (Q : Option Value → zX → Prop) : Ev y pc L st X Q = Ev y pc' L' st' X' Q := Ev_next ((zk_ins hd).trans hz) Q
theorem zk_br {off : Int} {b : Bool} {P : Prop} [Decidable P] {t : List Value} (hd : decode (zcode y) pc = .ok (i, len)) (hz : zins y pc i len L st X = zbr pc off L t X b) (hb : b = decide P) (ht : (pc : Int) + off = (tgt : Int)) (Q : Option Value → zX → Prop) : Ev y pc L st X Q = if P then Ev y tgt L t X Q else Ev y (pc + 3) L t X Q := by
  have hn : ((pc : Int) + off).toNat = tgt := by omega
  have hz2 : zstep y pc L st X = zbr pc off L t X b := (zk_ins hd).trans hz
  unfold zbr at hz2
  rw [hn, if_pos ht, hb] at hz2
  by_cases hP : P
  · rw [if_pos hP]
    rw [if_pos (decide_eq_true hP)] at hz2
    exact Ev_next hz2 Q
  · rw [if_neg hP]
    rw [if_neg (by simpa using hP)] at hz2
    exact Ev_next hz2 Q
theorem zk_jmp {off : Int} {t : List Value} (hd : decode (zcode y) pc = .ok (i, len)) (hz : zins y pc i len L st X = zjmp pc off L t X) (ht : (pc : Int) + off = (tgt : Int)) (Q : Option Value → zX → Prop) : Ev y pc L st X Q = Ev y tgt L t X Q := by
  have hn : ((pc : Int) + off).toNat = tgt := by omega
  have hz2 : zstep y pc L st X = zjmp pc off L t X := (zk_ins hd).trans hz
  unfold zjmp at hz2
  rw [hn, if_pos ht] at hz2
  exact Ev_next hz2 Q
theorem zk_get {k : Nat} {q : (Nat × Nat) × Nat} {a : Nat} {t : List Value} (hd : decode (zcode y) pc = .ok (.getfield k, 3)) (hf : zfld (zown y) k = some q) (Q : Option Value → zX → Prop) : Ev y pc L (.ref a :: t) (h, z) Q = zopt (zgF h a q.1.1 q.1.2) (fun v => Ev y (pc + 3) L (v :: t) (h, z) Q) := by
  have hz : zstep y pc L (.ref a :: t) (h, z) = zget y pc L (.ref a :: t) (h, z) k := zk_ins hd
  unfold zget at hz
  rw [hf] at hz
  dsimp only at hz
  cases hv : zgF h a q.1.1 q.1.2 with
  | none => rw [hv] at hz; exact Ev_none hz Q
  | some v => rw [hv] at hz; exact Ev_next hz Q
theorem zk_put {k : Nat} {q : (Nat × Nat) × Nat} {a : Nat} {v : Value} {t : List Value} (hd : decode (zcode y) pc = .ok (.putfield k, 3)) (hf : zfld (zown y) k = some q) (hfit : zfits (ztt q.1.1 q.1.2) v = true) (hfin : ((zTT q.1.1 q.1.2).2.2.2 = false ∨ ((zname y).name = "<init>" ∧ (zTT q.1.1 q.1.2).1 = zOn (zown y)))) (Q : Option Value → zX → Prop) : Ev y pc L (v :: .ref a :: t) (h, z) Q = zopt (zpF h a q.1.1 q.1.2 v) (fun h' => Ev y (pc + 3) L t (h', z) Q) := by
  have hz : zstep y pc L (v :: .ref a :: t) (h, z) = zput y pc L (v :: .ref a :: t) (h, z) k := zk_ins hd
  unfold zput at hz
  rw [hf] at hz
  dsimp only at hz
  rw [if_pos ⟨hfit, hfin⟩] at hz
  cases hv : zpF h a q.1.1 q.1.2 v with
  | none => rw [hv] at hz; exact Ev_none hz Q
  | some h' => rw [hv] at hz; exact Ev_next hz Q
theorem zk_ald {ty : FieldType} {a : Nat} {j : Int32} {t : List Value} (hd : decode (zcode y) pc = .ok (i, len)) (hz : zins y pc i len L (.int j :: .ref a :: t) (h, z) = zald (pc + 1) L (.int j :: .ref a :: t) (h, z) ty) (Q : Option Value → zX → Prop) : Ev y pc L (.int j :: .ref a :: t) (h, z) Q = zopt (zgA h a ty) (fun q => zinb j q.1 = true ∧ Ev y (pc + 1) L (.int (q.2 j.toNatClampNeg) :: t) (h, z) Q) := by
  have hz2 := (zk_ins hd).trans hz
  unfold zald at hz2
  dsimp only at hz2
  cases hv : zgA h a ty with
  | none => rw [hv] at hz2; exact Ev_none hz2 Q
  | some q =>
    rw [hv] at hz2
    dsimp only at hz2
    rw [zopt_some]
    by_cases hb : zinb j q.1 = true
    · rw [if_pos hb] at hz2
      rw [Ev_next hz2 Q]
      simp [hb]
    · rw [if_neg hb] at hz2
      rw [Ev_none hz2 Q]
      simp [hb]
theorem zk_ast {ty : FieldType} {a : Nat} {j x : Int32} {t : List Value} (hd : decode (zcode y) pc = .ok (i, len)) (hz : zins y pc i len L (.int x :: .int j :: .ref a :: t) (h, z) = zast (pc + 1) L (.int x :: .int j :: .ref a :: t) (h, z) ty) (Q : Option Value → zX → Prop) : Ev y pc L (.int x :: .int j :: .ref a :: t) (h, z) Q = zopt (zgA h a ty) (fun q => zinb j q.1 = true ∧ Ev y (pc + 1) L t (h.set a (zar ty q.1 (upd q.2 j.toNatClampNeg (vp_nar ty x))), z) Q) := by
  have hz2 := (zk_ins hd).trans hz
  unfold zast at hz2
  dsimp only at hz2
  cases hv : zgA h a ty with
  | none => rw [hv] at hz2; exact Ev_none hz2 Q
  | some q =>
    rw [hv] at hz2
    dsimp only at hz2
    rw [zopt_some]
    by_cases hb : zinb j q.1 = true
    · rw [if_pos hb] at hz2
      rw [Ev_next hz2 Q]
      simp [hb]
    · rw [if_neg hb] at hz2
      rw [Ev_none hz2 Q]
      simp [hb]
theorem zk_aald {a : Nat} {j : Int32} {t : List Value} (hd : decode (zcode y) pc = .ok (.aaload, 1)) (Q : Option Value → zX → Prop) : Ev y pc L (.int j :: .ref a :: t) (h, z) Q = zopt (zgR h a) (fun q => zinb j q.1 = true ∧ zopt (q.2 j.toNatClampNeg) (fun r => Ev y (pc + 1) L (.ref r :: t) (h, z) Q)) := by
  have hz2 : zstep y pc L (.int j :: .ref a :: t) (h, z) = zaald (pc + 1) L (.int j :: .ref a :: t) (h, z) := zk_ins hd
  unfold zaald at hz2
  dsimp only at hz2
  cases hv : zgR h a with
  | none => rw [hv] at hz2; exact Ev_none hz2 Q
  | some q =>
    rw [hv] at hz2
    dsimp only at hz2
    rw [zopt_some]
    by_cases hb : zinb j q.1 = true
    · rw [if_pos hb] at hz2
      cases hr : q.2 j.toNatClampNeg with
      | none =>
        rw [hr] at hz2
        rw [Ev_none hz2 Q, zopt_none]
        simp
      | some r =>
        rw [hr] at hz2
        rw [Ev_next hz2 Q, zopt_some]
        simp [hb]
    · rw [if_neg hb] at hz2
      rw [Ev_none hz2 Q]
      simp [hb]
theorem zk_sld {j : Int32} {t : List Value} (hd : decode (zcode y) pc = .ok (.iaload, 1)) (Q : Option Value → zX → Prop) : Ev y pc L (.int j :: zS :: t) (h, z) Q = (zinb j z.2.1 = true ∧ Ev y (pc + 1) L (.int (z.2.2 j.toNatClampNeg) :: t) (h, z) Q) := by
  have hz2 : zstep y pc L (.int j :: zS :: t) (h, z) = if FieldType.int = FieldType.int ∧ zinb j z.2.1 = true then zN (pc + 1) L (.int (z.2.2 j.toNatClampNeg) :: t) (h, z) else none := zk_ins hd
  by_cases hb : zinb j z.2.1 = true
  · rw [if_pos ⟨rfl, hb⟩] at hz2
    rw [Ev_next hz2 Q]
    simp [hb]
  · rw [if_neg (fun q => hb q.2)] at hz2
    rw [Ev_none hz2 Q]
    simp [hb]
theorem zk_alen {a : Nat} {t : List Value} (hd : decode (zcode y) pc = .ok (.arraylength, 1)) (Q : Option Value → zX → Prop) : Ev y pc L (.ref a :: t) (h, z) Q = zopt (zgA h a .int) (fun q => Ev y (pc + 1) L (.int (Int32.ofNat q.1) :: t) (h, z) Q) := by
  have hz2 : zstep y pc L (.ref a :: t) (h, z) = zalen (pc + 1) L (.ref a :: t) (h, z) := zk_ins hd
  unfold zalen at hz2
  dsimp only at hz2
  cases hv : zgA h a .int with
  | none => rw [hv] at hz2; exact Ev_none hz2 Q
  | some q => rw [hv] at hz2; exact Ev_next hz2 Q
theorem zk_div {a b r : Int32} {t : List Value} (hd : decode (zcode y) pc = .ok (i, len)) (hz : zins y pc i len L (.int b :: .int a :: t) X = if b = 0 then none else zN (pc + 1) L (.int r :: t) X) (Q : Option Value → zX → Prop) : Ev y pc L (.int b :: .int a :: t) X Q = (¬ b = 0 ∧ Ev y (pc + 1) L (.int r :: t) X Q) := by
  have hz2 := (zk_ins hd).trans hz
  by_cases hb : b = 0
  · rw [if_pos hb] at hz2
    rw [Ev_none hz2 Q]
    simp [hb]
  · rw [if_neg hb] at hz2
    rw [Ev_next hz2 Q]
    simp [hb]
theorem zk_divl {a b r : Int64} {t : List Value} (hd : decode (zcode y) pc = .ok (i, len)) (hz : zins y pc i len L (.long b :: .long a :: t) X = if b = 0 then none else zN (pc + 1) L (.long r :: t) X) (Q : Option Value → zX → Prop) : Ev y pc L (.long b :: .long a :: t) X Q = (¬ b = 0 ∧ Ev y (pc + 1) L (.long r :: t) X Q) := by
  have hz2 := (zk_ins hd).trans hz
  by_cases hb : b = 0
  · rw [if_pos hb] at hz2
    rw [Ev_none hz2 Q]
    simp [hb]
  · rw [if_neg hb] at hz2
    rw [Ev_next hz2 Q]
    simp [hb]
theorem zk_callS {k y' n M : Nat} {av Lc t : List Value} (hd : decode (zcode y) pc = .ok (.invokestatic k, 3)) (hc : zcal (zown y) k = some (1, y')) (hn : zna y' = n) (hm : zmaxL y' = M) (hr : zroom y y' = true) (hst : st = av.reverse ++ t) (hav : av.length = n) (h8 : zst8 t = true) (hLc : zentry M av = Lc) (hl : (zloc av).length ≤ M) (Q : Option Value → zX → Prop) : Ev y pc L st X Q = Ev y' 0 Lc [] X (fun r X1 => Ev y (pc + 3) L (zpush r t) X1 Q) := by
  have hz : zstep y pc L st X = zinv y pc L st X k 1 := zk_ins hd
  unfold zinv at hz
  rw [hc] at hz
  have hz2 : zstep y pc L st X = zcallS y pc L st y' := hz
  unfold zcallS at hz2
  subst hst hn hm
  have e1 : (av.reverse ++ t).take (zna y') = av.reverse := by rw [← hav, ← List.length_reverse, List.take_left']; rfl
  have e2 : (av.reverse ++ t).drop (zna y') = t := by rw [← hav, ← List.length_reverse, List.drop_left']; rfl
  rw [e1, e2, List.reverse_reverse, List.length_reverse, if_pos ⟨hr, hav, h8, hl⟩, hLc] at hz2
  exact Ev_call hz2 Q
theorem zk_callV {k y' a n M cl : Nat} {av Lc t : List Value} (hd : decode (zcode y) pc = .ok (.invokevirtual k, 3)) (hc : zcal (zown y) k = some (0, y')) (hn : zna y' = n) (hm : zmaxL y' = M) (hcl : zown y' = cl) (hr : zroom y y' = true) (hst : st = av.reverse ++ .ref a :: t) (hav : av.length = n) (h8 : zst8 t = true) (hLc : zentry M (.ref a :: av) = Lc) (hl : (zloc (.ref a :: av)).length ≤ M) (Q : Option Value → zX → Prop) : Ev y pc L st (h, z) Q = (zisO h a cl = true ∧ Ev y' 0 Lc [] (h, z) (fun r X1 => Ev y (pc + 3) L (zpush r t) X1 Q)) := by
  have hz : zstep y pc L st (h, z) = zinv y pc L st (h, z) k 0 := zk_ins hd
  unfold zinv at hz
  rw [hc] at hz
  have hz2 : zstep y pc L st (h, z) = zcallV y pc L st (h, z) y' := hz
  unfold zcallV at hz2
  subst hst hn hm hcl
  have e1 : (av.reverse ++ .ref a :: t).take (zna y') = av.reverse := by rw [← hav, ← List.length_reverse, List.take_left']; rfl
  have e2 : (av.reverse ++ .ref a :: t).drop (zna y') = .ref a :: t := by rw [← hav, ← List.length_reverse, List.drop_left']; rfl
  rw [e1, e2, List.reverse_reverse, List.length_reverse] at hz2
  dsimp only at hz2
  by_cases hb : zisO h a (zown y') = true
  · rw [if_pos ⟨hr, hav, h8, hb, hl⟩, hLc] at hz2
    rw [Ev_call hz2 Q]
    simp [hb]
  · rw [if_neg (fun q => hb q.2.2.2.1)] at hz2
    rw [Ev_none hz2 Q]
    simp [hb]
theorem zk_max {k y' : Nat} {u v : Int32} {t : List Value} (hd : decode (zcode y) pc = .ok (.invokestatic k, 3)) (hc : zcal (zown y) k = some (6, y')) (hsp : zspec y = true) (h8 : zst8 t = true) (Q : Option Value → zX → Prop) : Ev y pc L (.int v :: .int u :: t) X Q = Ev y (pc + 3) L (.int (if u < v then v else u) :: t) X Q := by
  have hz : zstep y pc L (.int v :: .int u :: t) X = zinv y pc L (.int v :: .int u :: t) X k 1 := zk_ins hd
  unfold zinv at hz
  rw [hc] at hz
  have hz2 : zstep y pc L (.int v :: .int u :: t) X = zmax y pc L (.int v :: .int u :: t) X := hz
  unfold zmax at hz2
  dsimp only at hz2
  rw [if_pos ⟨hsp, h8⟩] at hz2
  exact Ev_next hz2 Q
theorem zk_abs {k y' : Nat} {u : Int32} {t : List Value} (hd : decode (zcode y) pc = .ok (.invokestatic k, 3)) (hc : zcal (zown y) k = some (7, y')) (hsp : zspec y = true) (h8 : zst8 t = true) (Q : Option Value → zX → Prop) : Ev y pc L (.int u :: t) X Q = Ev y (pc + 3) L (.int (if 0 ≤ u then u else 0 - u) :: t) X Q := by
  have hz : zstep y pc L (.int u :: t) X = zinv y pc L (.int u :: t) X k 1 := zk_ins hd
  unfold zinv at hz
  rw [hc] at hz
  have hz2 : zstep y pc L (.int u :: t) X = zabs y pc L (.int u :: t) X := hz
  unfold zabs at hz2
  dsimp only at hz2
  rw [if_pos ⟨hsp, h8⟩] at hz2
  exact Ev_next hz2 Q
theorem zk_retI {ty : FieldType} {x : Int32} (hd : decode (zcode y) pc = .ok (.ireturn, 1)) (hr : zret y = some ty) (Q : Option Value → zX → Prop) : Ev y pc L [.int x] X Q = (narrow ty (.int x) = .int x ∧ Q (some (.int x)) X) := by
  have hz2 : zstep y pc L [.int x] X = zretI y [.int x] := zk_ins hd
  unfold zretI at hz2
  rw [hr] at hz2
  dsimp only at hz2
  by_cases hb : narrow ty (.int x) = .int x
  · rw [if_pos hb] at hz2
    rw [Ev_ret hz2 Q]
    simp [hb]
  · rw [if_neg hb] at hz2
    rw [Ev_none hz2 Q]
    simp [hb]
theorem zk_retint {x : Int32} (hd : decode (zcode y) pc = .ok (.ireturn, 1)) (hr : zret y = some .int) (Q : Option Value → zX → Prop) : Ev y pc L [.int x] X Q = Q (some (.int x)) X := by
  rw [zk_retI hd hr]
  simp [narrow]
theorem zk_retbool {x : Int32} (hd : decode (zcode y) pc = .ok (.ireturn, 1)) (hr : zret y = some .boolean) (Q : Option Value → zX → Prop) : Ev y pc L [.int x] X Q = (x &&& 1 = x ∧ Q (some (.int x)) X) := by
  rw [zk_retI hd hr]
  simp [narrow]
theorem zk_retJ {x : Int64} (hd : decode (zcode y) pc = .ok (.lreturn, 1)) (hr : zret y = some .long) (Q : Option Value → zX → Prop) : Ev y pc L [.long x] X Q = Q (some (.long x)) X := by
  have hz2 : zstep y pc L [.long x] X = zretJ y [.long x] := zk_ins hd
  unfold zretJ at hz2
  dsimp only at hz2
  rw [if_pos hr] at hz2
  exact Ev_ret hz2 Q
theorem zk_retV (hd : decode (zcode y) pc = .ok (.return_, 1)) (hr : zret y = none) (Q : Option Value → zX → Prop) : Ev y pc L [] X Q = Q none X := by
  have hz2 : zstep y pc L [] X = zretV y [] := zk_ins hd
  unfold zretV at hz2
  dsimp only at hz2
  rw [if_pos hr] at hz2
  exact Ev_ret hz2 Q
/-- a switch over a table: at one of its numbers, and off it -/
theorem zk_tabIn {dflt lo hi off : Int} {offs : Array Int} {x : Int32} {t : List Value} (hd : decode (zcode y) pc = .ok (.tableswitch dflt lo hi offs, len)) (hx : decide (x.toInt < lo ∨ hi < x.toInt) = false) (ho : offs[(x.toInt - lo).toNat]? = some off) (ht : (pc : Int) + off = (tgt : Int)) (Q : Option Value → zX → Prop) : Ev y pc L (.int x :: t) X Q = Ev y tgt L t X Q := by
  refine zk_jmp hd (off := off) ?_ ht Q
  show ztab pc L (.int x :: t) X dflt lo hi offs = _
  unfold ztab
  dsimp only
  rw [if_neg (of_decide_eq_false hx), ho]
theorem zk_tabOut {dflt lo hi : Int} {offs : Array Int} {x : Int32} {t : List Value} (hd : decode (zcode y) pc = .ok (.tableswitch dflt lo hi offs, len)) (hx : x.toInt < lo ∨ hi < x.toInt) (ht : (pc : Int) + dflt = (tgt : Int)) (Q : Option Value → zX → Prop) : Ev y pc L (.int x :: t) X Q = Ev y tgt L t X Q := by
  refine zk_jmp hd (off := dflt) ?_ ht Q
  show ztab pc L (.int x :: t) X dflt lo hi offs = _
  unfold ztab
  dsimp only
  rw [if_pos hx]
theorem zk_look {dflt off : Int} {ps : Array (Int × Int)} {x : Int32} {t : List Value} (hd : decode (zcode y) pc = .ok (.lookupswitch dflt ps, len)) (hs : (ps.toList.zip (ps.toList.drop 1)).all (fun (a, next) => a.1 < next.1) = true) (ho : Op.lookupswitch.offset ps.toList dflt x.toInt = off) (ht : (pc : Int) + off = (tgt : Int)) (Q : Option Value → zX → Prop) : Ev y pc L (.int x :: t) X Q = Ev y tgt L t X Q := by
  refine zk_jmp hd (off := off) ?_ ht Q
  show zlook pc L (.int x :: t) X dflt ps = _
  unfold zlook
  dsimp only
  rw [if_pos hs, ho]
theorem zk_copy {k y' : Nat} {n dp sp : Int32} {a a0 : Nat} {t : List Value} (hd : decode (zcode y) pc = .ok (.invokestatic k, 3)) (hc : zcal (zown y) k = some (5, y')) {ty : FieldType} {n0 n1 : Nat} {f g : Nat → Int32} (h0 : h[a0]? = some (zar ty n0 f)) (h1 : h[a]? = some (zar ty n1 g)) (hp : ty = .int ∨ ty = .boolean) (hsp : zspec y = true) (h8 : zst8 t = true) (k1 : ¬ sp < 0) (k2 : ¬ dp < 0) (k3 : ¬ n < 0) (k4 : sp.toNatClampNeg + n.toNatClampNeg ≤ n0) (k5 : dp.toNatClampNeg + n.toNatClampNeg ≤ n1) (k6 : ∀ i, i < n.toNatClampNeg → fits ty (.int (f (sp.toNatClampNeg + i))) = true) (Q : Option Value → zX → Prop) :
    Ev y pc L (.int n :: .int dp :: .ref a :: .int sp :: .ref a0 :: t) (h, z) Q = Ev y (pc + 3) L t (h.set a (zar ty n1 (va_cpy f g sp.toNatClampNeg dp.toNatClampNeg n.toNatClampNeg)), z) Q := by
  have hz : zstep y pc L (.int n :: .int dp :: .ref a :: .int sp :: .ref a0 :: t) (h, z) = zinv y pc L (.int n :: .int dp :: .ref a :: .int sp :: .ref a0 :: t) (h, z) k 1 := zk_ins hd
  unfold zinv at hz
  rw [hc] at hz
  have hz2 : zstep y pc L (.int n :: .int dp :: .ref a :: .int sp :: .ref a0 :: t) (h, z) = zcopy y pc L (.int n :: .int dp :: .ref a :: .int sp :: .ref a0 :: t) (h, z) := hz
  refine Ev_next (hz2.trans ?_) Q
  unfold zcopy
  dsimp only
  rw [h0, h1]
  dsimp only
  rw [if_pos ⟨hsp, h8, rfl, hp, k1, k2, k3, k4, k5, k6⟩]
end ZK
end
