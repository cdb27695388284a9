/-! THE CLAIM OUT OF ONE WALK OF THE LAW'S BODY. Your part is whole_start (and what it stands on); all else here is the same for every law, but numbers. -/
def R_law : String := "StrawDrawsLaw"
def lw_P (b : Addr) (xs : List Int32) (args : Array Value) (s : State) : Prop := args = #[.ref b] ∧ s.IntsAt b xs ∧ xs.length ≤ 260 ∧ (Jvm.Cond.and given_1 narrow_1).before args s = true
def lw_Q (_ : Array Value) (s : State) (o : Outcome) (t : State) : Prop := o = .returned (some (.int 1)) ∧ Framed s o t [] 600000 7302250
def lw_Z (below : List Frame) (a : Array Value) (s : State) : State → Prop := fun t => ∃ o, t.status = .running ∧ Ended t below o ∧ lw_Q a s o t
/-- the law's own end, with 1 on the stack, nothing written that was there before, its room as the claim has it -/
theorem lw_ret {p : Program} {l : Launch} {e : Env} {s : State} {m : MethodId} {below : List Frame} {meth : Method} {c : Code} {b : Nat} (hx : p.tables.exec = Jvm.exec) (hb : c.code = code) (hr : meth.sig.returnType = ret) (hlocks : meth.locks = false) {pc : Nat} {H : Heap} {ls : Array Slot} (hdg : decode code pc = .ok (.ireturn, 1)) : W p l e room_1 s m #[Value.ref b] below meth c H [] 600000 7302250 (lw_Z below #[Value.ref b] s) (F0 m pc ls [.int 1]) := by
  intro T hT X
  obtain ⟨fs, hret, hrun, hended, hW, hframe⟩ := X.leave (v := some (.int 1)) (hlocks := hlocks) (fun h => by rw [hr] at h; cases h)
  have hmeth' : T.vm.method? m = some meth := X.method'
  refine ⟨T.setFrames fs, ?_, .returned (some (.int 1)), hrun, hended, rfl, ⟨_, rfl⟩, hW, hframe⟩
  jvm_step X.here [X.here.top, hx, hb, hdg, hmeth', hr, ret, narrow_b1]
  (try refine ⟨rfl, ?_⟩); (try refine ⟨rfl, ?_⟩)
  first | (intro acts; rw [hret _ acts rfl rfl rfl]) | rw [hret _ _ rfl rfl rfl]
  exact Steps.refl _
/-- what holds at the law's entry: the machine, the code, the tables' words (any of lw_tbl by 'hts w (by decide +kernel)'), the script of L ints xs at the cell b, what the Statement gives of the start (any of its parts by flat_of_before) -/
def lw_At (p : Program) (s : State) (m : MethodId) (meth : Method) (c : Code) (b L : Nat) (xs : Nat → Int32) : Prop :=
  p.tables.exec = Jvm.exec ∧ c.code = code ∧ meth.sig.returnType = ret ∧ c.maxLocals = 4 ∧ s.vm.findClass R_law = some m.cls ∧ (∀ w ∈ lw_tbl, w.before #[Value.ref b] s = true) ∧ va_X b L xs s s.heap ∧ b < s.heap.size ∧ meth.locks = false ∧ (Jvm.Cond.and given_1 narrow_1).before #[Value.ref b] s = true
section
set_option maxRecDepth 100000
theorem zkn_start {s : State} {A : Array Value} (hts : ∀ w ∈ lw_tbl, w.before A s = true) : ∃ (D : va_G) (cy : FieldType → ClassId), zKn D cy s := by
  have hin : ∀ c, c < 6 → ∀ w ∈ u_ws (zOn c) (zTT c) (zNF c), w ∈ lw_tbl := fun c h w hw => (zTb_good w (zcl_in h w hw)).1
  have hinst : ∀ c, c < 6 → ∃ (cC : ClassId) (iS : Nat → Nat), u_Kn s (zOn c) (zTT c) (zNF c) cC iS := by
    intro c hc
    have hw : ∃ n : Nat, lw_tbl[n]? = some (Cond.instantiable (zOn c) (zNF c)) := by
      rcases (show c = 0 ∨ c = 1 ∨ c = 2 ∨ c = 3 ∨ c = 4 ∨ c = 5 by omega) with rfl | rfl | rfl | rfl | rfl | rfl
      · exact ⟨100, by rfl⟩
      · exact ⟨160, by rfl⟩
      · exact ⟨133, by rfl⟩
      · exact ⟨34, by rfl⟩
      · exact ⟨120, by rfl⟩
      · exact ⟨26, by rfl⟩
    obtain ⟨n, hn⟩ := hw
    exact u_known hts (hin c hc) (hts _ (List.mem_of_getElem? hn))
  obtain ⟨cI, kI, mI, hI1, hI2, hI3⟩ := Cond.arrayClass_spec (hts (Cond.arrayClass .int) (List.mem_of_getElem? (i:= 97) (by rfl)))
  obtain ⟨cZ, kZ, mZ, hZ1, hZ2, hZ3⟩ := Cond.arrayClass_spec (hts (Cond.arrayClass .boolean) (List.mem_of_getElem? (i:= 98) (by rfl)))
  obtain ⟨cC, kC, mC, hC1, hC2, hC3⟩ := Cond.arrayClass_spec (hts (Cond.arrayClass .char) (List.mem_of_getElem? (i:= 158) (by rfl)))
  have hAO : (Cond.arrayOver (.object "StrawDraws$State")).before A s = true := hts _ (List.mem_of_getElem? (i:= 106) (by rfl))
  obtain ⟨mQ, cQ, kQ, hQ1, -, hQ3, hQ4, hQ5⟩ := Cond.arrayOver_spec hAO
  obtain ⟨c0, i0, h0⟩ := hinst 0 (by decide)
  obtain ⟨c1, i1, h1⟩ := hinst 1 (by decide)
  obtain ⟨c2, i2, h2⟩ := hinst 2 (by decide)
  obtain ⟨c3, i3, h3⟩ := hinst 3 (by decide)
  obtain ⟨c4, i4, h4⟩ := hinst 4 (by decide)
  obtain ⟨c5, i5, h5⟩ := hinst 5 (by decide)
  refine ⟨(fun k => match k with | 0 => c0 | 1 => c1 | 2 => c2 | 3 => c3 | 4 => c4 | _ => c5, fun k => match k with | 0 => i0 | 1 => i1 | 2 => i2 | 3 => i3 | 4 => i4 | _ => i5),
    fun ty => match ty with | .int => cI | .boolean => cZ | .char => cC | _ => cQ, ⟨fun c q hq => ?_, fun k q hq => ?_⟩, fun w hw => ?_, hAO⟩
  · match c, hq with
    | 0, hq => cases hq; exact h0
    | 1, hq => cases hq; exact h1
    | 2, hq => cases hq; exact h2
    | 3, hq => cases hq; exact h3
    | 4, hq => cases hq; exact h4
    | 5, hq => cases hq; exact h5
    | k + 6, hq => simp [zcl] at hq
  · match k, hq with
    | 0, hq => cases hq; exact ⟨fun n z => ⟨(fun k h => by cases h), kI, hI2, mI, hI3⟩, hI1⟩
    | 1, hq => cases hq; exact ⟨fun n z => ⟨(fun k h => by cases h), kZ, hZ2, mZ, hZ3⟩, hZ1⟩
    | 2, hq => cases hq; exact ⟨fun n z => ⟨(fun k h => by cases h), kC, hC2, mC, hC3⟩, hC1⟩
    | 3, hq => cases hq; exact ⟨fun n z => ⟨(fun k h => by cases h), kQ, hQ3, mQ, hQ4⟩, kQ, mQ, hQ3, hQ4, hQ1, hQ5⟩
    | k + 4, hq => simp [ztys] at hq
  · have h1 := (List.mem_filter.mp hw).1
    have h2 := (List.mem_filter.mp hw).2
    have h3 := hts w h1
    cases w <;> first | exact va_Nw.of rfl h3 | cases h2
/-- the law's start, out of a run of the small machine -/
theorem zlaw_start {p : Program} {e : Env} {s : State} {m : MethodId} {below : List Frame} {meth : Method} {c : Code} (l : Launch) {b L : Nat} {xs : Nat → Int32} (C0 : lw_At p s m meth c b L xs)
    (hrun : Ev 70 0 [zS, zU, zU, zU] [] ([], (0, (L, xs))) (fun r X' => r = some (.int 1) ∧ X'.1.length ≤ 600000 ∧ X'.2.1 ≤ 7302250)) : W p l e room_1 s m #[Value.ref b] below meth c s.heap [] 0 0 (lw_Z below #[Value.ref b] s) (entryFrame m ([Value.ref b] : List Value).toArray 4) := by
  obtain ⟨hx, hb, hr, hml, hown, hts, hX, hbl, hlocks, hgv⟩ := id C0
  obtain ⟨n, r, X', hz, rfl, hlen, hsl⟩ := hrun
  obtain ⟨D, cy, hK⟩ := zkn_start hts
  have hS := zsim _ _ _ _ _ _ _ _ hz
  have C : zCtx p room_1 s m #[Value.ref b] meth c 70 D cy X'.1.length X'.2.1 := ⟨hx, hb, hr, hml, hown, fun w hw => hts w (zTb_good w hw).1, hK, hlocks, fun h => absurd h (by decide +kernel), by decide, by decide, hlen, hsl⟩
  have hls : zLs s.heap.size b [zS, zU, zU, zU] ((lg_sl [Value.ref b] ++ List.replicate (4 - (lg_sl [Value.ref b]).length) Slot.unset).toArray) := by
    have h1 := lv_entry ([.ref b]) (n := 4) (Nat.le_of_ble_eq_true rfl)
    refine ⟨h1.1, h1.2.1, fun i v hi hk => ?_⟩
    match i, hi with
    | 0, hi => cases hi; exact h1.2.2 (0, .ref b) List.mem_cons_self
    | 1, hi => cases hi; cases hk
    | 2, hi => cases hi; cases hk
    | 3, hi => cases hi; cases hk
    | i + 4, hi => simp at hi
  rw [lg_entry_eq]
  refine hS.2.2 p l e room_1 s m #[Value.ref b] below meth c (lw_Z below #[Value.ref b] s) D cy s.heap.size b s.heap X'.1.length X'.2.1 C rfl ?_ s.heap _ [] 0 0 ⟨rfl, fun k q h => by simp [zW] at h, hbl, hX⟩ va_S.rf hls (by simp) (by simp)
  intro H' ls' locs' pc' hR' hS' hrt
  refine va_forget hS'.2.2 (W.widen hlen hsl ?_)
  exact lw_ret hx hb hr hlocks hrt.1
end
