/-! a whole run of the small machine is one of the given machine -/
section
set_option maxRecDepth 100000
section ZG
variable {p : Program} {l : Launch} {e : Env} {R : Room} {s : State} {m : MethodId} {args : Array Value} {below : List Frame} {meth : Method} {c : Code} {Q : State → Prop} {y : Nat} {D : va_G} {cy : FieldType → ClassId} {B b : Nat} {H0 : Heap} {X' : zX} {kc ks : Nat}
variable {pc len : Nat} {L st : List Value} {X : zX} {q : Nat × List Value × List Value × zX}
def zLe (L : List Value) (X : zX) (q : Nat × List Value × List Value × zX) : Prop := X.1.length ≤ q.2.2.2.1.length ∧ X.2.1 ≤ q.2.2.2.2.1 ∧ q.2.1.length = L.length
theorem zle_zldI {k : Nat} (h : zldI pc L st X k = some (.inl q)) : zLe L X q := by
  unfold zldI at h
  repeat' (split at h)
  all_goals first | (cases h; done) | (cases h; exact ⟨by simp, by simp, by simp⟩)
theorem znr_zldI {k : Nat} {w} (h : zldI pc L st X k = some (.inr w)) : False := by
  unfold zldI at h
  repeat' (split at h)
  all_goals cases h
theorem zle_zldJ {k : Nat} (h : zldJ pc L st X k = some (.inl q)) : zLe L X q := by
  unfold zldJ at h
  repeat' (split at h)
  all_goals first | (cases h; done) | (cases h; exact ⟨by simp, by simp, by simp⟩)
theorem znr_zldJ {k : Nat} {w} (h : zldJ pc L st X k = some (.inr w)) : False := by
  unfold zldJ at h
  repeat' (split at h)
  all_goals cases h
theorem zle_zldA {k : Nat} (h : zldA pc L st X k = some (.inl q)) : zLe L X q := by
  unfold zldA at h
  repeat' (split at h)
  all_goals first | (cases h; done) | (cases h; exact ⟨by simp, by simp, by simp⟩)
theorem znr_zldA {k : Nat} {w} (h : zldA pc L st X k = some (.inr w)) : False := by
  unfold zldA at h
  repeat' (split at h)
  all_goals cases h
theorem zle_zstI {k : Nat} (h : zstI pc L st X k = some (.inl q)) : zLe L X q := by
  unfold zstI at h
  repeat' (split at h)
  all_goals first | (cases h; done) | (cases h; exact ⟨by simp, by simp, by simp⟩)
theorem znr_zstI {k : Nat} {w} (h : zstI pc L st X k = some (.inr w)) : False := by
  unfold zstI at h
  repeat' (split at h)
  all_goals cases h
theorem zle_zstJ {k : Nat} (h : zstJ pc L st X k = some (.inl q)) : zLe L X q := by
  unfold zstJ at h
  repeat' (split at h)
  all_goals first | (cases h; done) | (cases h; exact ⟨by simp, by simp, by simp⟩)
theorem znr_zstJ {k : Nat} {w} (h : zstJ pc L st X k = some (.inr w)) : False := by
  unfold zstJ at h
  repeat' (split at h)
  all_goals cases h
theorem zle_zstA {k : Nat} (h : zstA pc L st X k = some (.inl q)) : zLe L X q := by
  unfold zstA at h
  repeat' (split at h)
  all_goals first | (cases h; done) | (cases h; exact ⟨by simp, by simp, by simp⟩)
theorem znr_zstA {k : Nat} {w} (h : zstA pc L st X k = some (.inr w)) : False := by
  unfold zstA at h
  repeat' (split at h)
  all_goals cases h
theorem zle_zb2 {f : Int32 → Int32 → Int32} (h : zb2 pc L st X f = some (.inl q)) : zLe L X q := by
  unfold zb2 at h
  repeat' (split at h)
  all_goals first | (cases h; done) | (cases h; exact ⟨by simp, by simp, by simp⟩)
theorem znr_zb2 {f : Int32 → Int32 → Int32} {w} (h : zb2 pc L st X f = some (.inr w)) : False := by
  unfold zb2 at h
  repeat' (split at h)
  all_goals cases h
theorem zle_zb2z {f : Int32 → Int32 → Int32} (h : zb2z pc L st X f = some (.inl q)) : zLe L X q := by
  unfold zb2z at h
  repeat' (split at h)
  all_goals first | (cases h; done) | (cases h; exact ⟨by simp, by simp, by simp⟩)
theorem znr_zb2z {f : Int32 → Int32 → Int32} {w} (h : zb2z pc L st X f = some (.inr w)) : False := by
  unfold zb2z at h
  repeat' (split at h)
  all_goals cases h
theorem zle_zj2 {f : Int64 → Int64 → Int64} (h : zj2 pc L st X f = some (.inl q)) : zLe L X q := by
  unfold zj2 at h
  repeat' (split at h)
  all_goals first | (cases h; done) | (cases h; exact ⟨by simp, by simp, by simp⟩)
theorem znr_zj2 {f : Int64 → Int64 → Int64} {w} (h : zj2 pc L st X f = some (.inr w)) : False := by
  unfold zj2 at h
  repeat' (split at h)
  all_goals cases h
theorem zle_zj2z {f : Int64 → Int64 → Int64} (h : zj2z pc L st X f = some (.inl q)) : zLe L X q := by
  unfold zj2z at h
  repeat' (split at h)
  all_goals first | (cases h; done) | (cases h; exact ⟨by simp, by simp, by simp⟩)
theorem znr_zj2z {f : Int64 → Int64 → Int64} {w} (h : zj2z pc L st X f = some (.inr w)) : False := by
  unfold zj2z at h
  repeat' (split at h)
  all_goals cases h
theorem zle_zji {f : Int64 → Int32 → Int64} (h : zji pc L st X f = some (.inl q)) : zLe L X q := by
  unfold zji at h
  repeat' (split at h)
  all_goals first | (cases h; done) | (cases h; exact ⟨by simp, by simp, by simp⟩)
theorem znr_zji {f : Int64 → Int32 → Int64} {w} (h : zji pc L st X f = some (.inr w)) : False := by
  unfold zji at h
  repeat' (split at h)
  all_goals cases h
theorem zle_zi1 {f : Int32 → Value} (h : zi1 pc L st X f = some (.inl q)) : zLe L X q := by
  unfold zi1 at h
  repeat' (split at h)
  all_goals first | (cases h; done) | (cases h; exact ⟨by simp, by simp, by simp⟩)
theorem znr_zi1 {f : Int32 → Value} {w} (h : zi1 pc L st X f = some (.inr w)) : False := by
  unfold zi1 at h
  repeat' (split at h)
  all_goals cases h
theorem zle_zl1 {f : Int64 → Value} (h : zl1 pc L st X f = some (.inl q)) : zLe L X q := by
  unfold zl1 at h
  repeat' (split at h)
  all_goals first | (cases h; done) | (cases h; exact ⟨by simp, by simp, by simp⟩)
theorem znr_zl1 {f : Int64 → Value} {w} (h : zl1 pc L st X f = some (.inr w)) : False := by
  unfold zl1 at h
  repeat' (split at h)
  all_goals cases h
theorem zle_zbr {off : Int} {bb : Bool} (h : zbr pc off L st X bb = some (.inl q)) : zLe L X q := by
  unfold zbr at h
  repeat' (split at h)
  all_goals first | (cases h; done) | (cases h; exact ⟨by simp, by simp, by simp⟩)
theorem znr_zbr {off : Int} {bb : Bool} {w} (h : zbr pc off L st X bb = some (.inr w)) : False := by
  unfold zbr at h
  repeat' (split at h)
  all_goals cases h
theorem zle_zjmp {off : Int} (h : zjmp pc off L st X = some (.inl q)) : zLe L X q := by
  unfold zjmp at h
  repeat' (split at h)
  all_goals first | (cases h; done) | (cases h; exact ⟨by simp, by simp, by simp⟩)
theorem znr_zjmp {off : Int} {w} (h : zjmp pc off L st X = some (.inr w)) : False := by
  unfold zjmp at h
  repeat' (split at h)
  all_goals cases h
theorem zle_zald {ty : FieldType} (h : zald pc L st X ty = some (.inl q)) : zLe L X q := by
  unfold zald at h
  repeat' (split at h)
  all_goals first | (cases h; done) | (cases h; exact ⟨by simp, by simp, by simp⟩)
theorem znr_zald {ty : FieldType} {w} (h : zald pc L st X ty = some (.inr w)) : False := by
  unfold zald at h
  repeat' (split at h)
  all_goals cases h
theorem zle_zast {ty : FieldType} (h : zast pc L st X ty = some (.inl q)) : zLe L X q := by
  unfold zast at h
  repeat' (split at h)
  all_goals first | (cases h; done) | (cases h; exact ⟨by simp, by simp, by simp⟩)
theorem znr_zast {ty : FieldType} {w} (h : zast pc L st X ty = some (.inr w)) : False := by
  unfold zast at h
  repeat' (split at h)
  all_goals cases h
theorem zle_zaald  (h : zaald pc L st X = some (.inl q)) : zLe L X q := by
  unfold zaald at h
  repeat' (split at h)
  all_goals first | (cases h; done) | (cases h; exact ⟨by simp, by simp, by simp⟩)
theorem znr_zaald  {w} (h : zaald pc L st X = some (.inr w)) : False := by
  unfold zaald at h
  repeat' (split at h)
  all_goals cases h
theorem zle_zaast  (h : zaast pc L st X = some (.inl q)) : zLe L X q := by
  unfold zaast at h
  repeat' (split at h)
  all_goals first | (cases h; done) | (cases h; exact ⟨by simp, by simp, by simp⟩)
theorem znr_zaast  {w} (h : zaast pc L st X = some (.inr w)) : False := by
  unfold zaast at h
  repeat' (split at h)
  all_goals cases h
theorem zle_zalen  (h : zalen pc L st X = some (.inl q)) : zLe L X q := by
  unfold zalen at h
  repeat' (split at h)
  all_goals first | (cases h; done) | (cases h; exact ⟨by simp, by simp, by simp⟩)
theorem znr_zalen  {w} (h : zalen pc L st X = some (.inr w)) : False := by
  unfold zalen at h
  repeat' (split at h)
  all_goals cases h
theorem zle_zget {k : Nat} (h : zget y pc L st X k = some (.inl q)) : zLe L X q := by
  unfold zget at h
  repeat' (split at h)
  all_goals first | (cases h; done) | (cases h; exact ⟨by simp, by simp, by simp⟩)
theorem znr_zget {k : Nat} {w} (h : zget y pc L st X k = some (.inr w)) : False := by
  unfold zget at h
  repeat' (split at h)
  all_goals cases h
theorem zle_znewo {k : Nat} (h : znewo y pc L st X k = some (.inl q)) : zLe L X q := by
  unfold znewo at h
  repeat' (split at h)
  all_goals first | (cases h; done) | (cases h; exact ⟨by simp, by simp, by simp⟩)
theorem znr_znewo {k : Nat} {w} (h : znewo y pc L st X k = some (.inr w)) : False := by
  unfold znewo at h
  repeat' (split at h)
  all_goals cases h
theorem zle_znewa {ty : FieldType} (h : znewa pc L st X ty = some (.inl q)) : zLe L X q := by
  unfold znewa at h
  repeat' (split at h)
  all_goals first | (cases h; done) | (cases h; exact ⟨by simp, by simp, by simp⟩)
theorem znr_znewa {ty : FieldType} {w} (h : znewa pc L st X ty = some (.inr w)) : False := by
  unfold znewa at h
  repeat' (split at h)
  all_goals cases h
theorem zle_znewr {k : Nat} (h : znewr y pc L st X k = some (.inl q)) : zLe L X q := by
  unfold znewr at h
  repeat' (split at h)
  all_goals first | (cases h; done) | (cases h; exact ⟨by simp, by simp, by simp⟩)
theorem znr_znewr {k : Nat} {w} (h : znewr y pc L st X k = some (.inr w)) : False := by
  unfold znewr at h
  repeat' (split at h)
  all_goals cases h
theorem zle_zcopy  (h : zcopy y pc L st X = some (.inl q)) : zLe L X q := by
  unfold zcopy at h
  repeat' (split at h)
  all_goals first | (cases h; done) | (cases h; exact ⟨by simp, by simp, by simp⟩)
theorem znr_zcopy  {w} (h : zcopy y pc L st X = some (.inr w)) : False := by
  unfold zcopy at h
  repeat' (split at h)
  all_goals cases h
theorem zle_zinit  (h : zinit y pc L st X = some (.inl q)) : zLe L X q := by
  unfold zinit at h
  repeat' (split at h)
  all_goals first | (cases h; done) | (cases h; exact ⟨by simp, by simp, by simp⟩)
theorem znr_zinit  {w} (h : zinit y pc L st X = some (.inr w)) : False := by
  unfold zinit at h
  repeat' (split at h)
  all_goals cases h
theorem zle_zmax  (h : zmax y pc L st X = some (.inl q)) : zLe L X q := by
  unfold zmax at h
  repeat' (split at h)
  all_goals first | (cases h; done) | (cases h; exact ⟨by simp, by simp, by simp⟩)
theorem znr_zmax  {w} (h : zmax y pc L st X = some (.inr w)) : False := by
  unfold zmax at h
  repeat' (split at h)
  all_goals cases h
theorem zle_zabs  (h : zabs y pc L st X = some (.inl q)) : zLe L X q := by
  unfold zabs at h
  repeat' (split at h)
  all_goals first | (cases h; done) | (cases h; exact ⟨by simp, by simp, by simp⟩)
theorem znr_zabs  {w} (h : zabs y pc L st X = some (.inr w)) : False := by
  unfold zabs at h
  repeat' (split at h)
  all_goals cases h
theorem zle_zdup  (h : zdup pc L st X = some (.inl q)) : zLe L X q := by
  unfold zdup at h
  repeat' (split at h)
  all_goals first | (cases h; done) | (cases h; exact ⟨by simp, by simp, by simp⟩)
theorem znr_zdup  {w} (h : zdup pc L st X = some (.inr w)) : False := by
  unfold zdup at h
  repeat' (split at h)
  all_goals cases h
theorem zle_zdup2  (h : zdup2 pc L st X = some (.inl q)) : zLe L X q := by
  unfold zdup2 at h
  repeat' (split at h)
  all_goals first | (cases h; done) | (cases h; exact ⟨by simp, by simp, by simp⟩)
theorem znr_zdup2  {w} (h : zdup2 pc L st X = some (.inr w)) : False := by
  unfold zdup2 at h
  repeat' (split at h)
  all_goals cases h
theorem zle_zpop  (h : zpop pc L st X = some (.inl q)) : zLe L X q := by
  unfold zpop at h
  repeat' (split at h)
  all_goals first | (cases h; done) | (cases h; exact ⟨by simp, by simp, by simp⟩)
theorem znr_zpop  {w} (h : zpop pc L st X = some (.inr w)) : False := by
  unfold zpop at h
  repeat' (split at h)
  all_goals cases h
theorem zle_zcmp  (h : zcmp pc L st X = some (.inl q)) : zLe L X q := by
  unfold zcmp at h
  repeat' (split at h)
  all_goals first | (cases h; done) | (cases h; exact ⟨by simp, by simp, by simp⟩)
theorem znr_zcmp  {w} (h : zcmp pc L st X = some (.inr w)) : False := by
  unfold zcmp at h
  repeat' (split at h)
  all_goals cases h
theorem zle_zinc {k : Nat} {n : Int} (h : zinc pc L st X k n = some (.inl q)) : zLe L X q := by
  unfold zinc at h
  repeat' (split at h)
  all_goals first | (cases h; done) | (cases h; exact ⟨by simp, by simp, by simp⟩)
theorem znr_zinc {k : Nat} {n : Int} {w} (h : zinc pc L st X k n = some (.inr w)) : False := by
  unfold zinc at h
  repeat' (split at h)
  all_goals cases h
theorem zle_zcst {oo : Option Int32} (h : zcst pc L st X oo = some (.inl q)) : zLe L X q := by
  unfold zcst at h
  repeat' (split at h)
  all_goals first | (cases h; done) | (cases h; exact ⟨by simp, by simp, by simp⟩)
theorem znr_zcst {oo : Option Int32} {w} (h : zcst pc L st X oo = some (.inr w)) : False := by
  unfold zcst at h
  repeat' (split at h)
  all_goals cases h
theorem zle_zcst2 {oo : Option Int64} (h : zcst2 pc L st X oo = some (.inl q)) : zLe L X q := by
  unfold zcst2 at h
  repeat' (split at h)
  all_goals first | (cases h; done) | (cases h; exact ⟨by simp, by simp, by simp⟩)
theorem znr_zcst2 {oo : Option Int64} {w} (h : zcst2 pc L st X oo = some (.inr w)) : False := by
  unfold zcst2 at h
  repeat' (split at h)
  all_goals cases h
theorem zle_zput {k : Nat} (h : zput y pc L st X k = some (.inl q)) : zLe L X q := by
  unfold zput at h
  repeat' (split at h)
  all_goals first | (cases h; done) | skip
  next h' hh =>
    cases h
    obtain ⟨fs, -, -, rfl⟩ := zpF_ok hh
    exact ⟨by simp, by simp, by simp⟩
theorem znr_zput {k : Nat} {w} (h : zput y pc L st X k = some (.inr w)) : False := by
  unfold zput at h
  repeat' (split at h)
  all_goals cases h
theorem zle_ztab {dflt lo hi : Int} {offs : Array Int} (h : ztab pc L st X dflt lo hi offs = some (.inl q)) : zLe L X q := by
  unfold ztab at h
  split at h
  next xx t =>
    split at h
    next => exact zle_zjmp h
    next =>
      split at h
      next => exact zle_zjmp h
      next => cases h
  next => cases h
theorem znr_ztab {dflt lo hi : Int} {offs : Array Int} {w} (h : ztab pc L st X dflt lo hi offs = some (.inr w)) : False := by
  unfold ztab at h
  split at h
  next xx t =>
    split at h
    next => exact znr_zjmp h
    next =>
      split at h
      next => exact znr_zjmp h
      next => cases h
  next => cases h
theorem zle_zlook {dflt : Int} {ps : Array (Int × Int)} (h : zlook pc L st X dflt ps = some (.inl q)) : zLe L X q := by
  unfold zlook at h
  split at h
  next xx t =>
    split at h
    next => exact zle_zjmp h
    next => cases h
  next => cases h
theorem znr_zlook {dflt : Int} {ps : Array (Int × Int)} {w} (h : zlook pc L st X dflt ps = some (.inr w)) : False := by
  unfold zlook at h
  split at h
  next xx t =>
    split at h
    next => exact znr_zjmp h
    next => cases h
  next => cases h
theorem zcallS_ok {y' : Nat} {w} (h : zcallS y pc L st y' = some w) : w = .inr (.inl (y', zentry (zmaxL y') (st.take (zna y')).reverse, pc + 3, L, st.drop (zna y'))) ∧ zroom y y' = true ∧ (st.take (zna y')).length = zna y' ∧ zst8 (st.drop (zna y')) = true ∧ (zloc (st.take (zna y')).reverse).length ≤ zmaxL y' := by
  unfold zcallS at h
  split at h
  next hv => cases h; exact ⟨rfl, hv⟩
  next => cases h
theorem zcallV_ok {y' : Nat} {w} (h : zcallV y pc L st X y' = some w) : ∃ a t, st.drop (zna y') = .ref a :: t ∧ w = .inr (.inl (y', zentry (zmaxL y') (.ref a :: (st.take (zna y')).reverse), pc + 3, L, t)) ∧ zroom y y' = true ∧ (st.take (zna y')).length = zna y' ∧ zst8 t = true ∧ zisO X.1 a (zown y') = true ∧ (zloc (.ref a :: (st.take (zna y')).reverse)).length ≤ zmaxL y' := by
  unfold zcallV at h
  split at h
  next a t ht =>
    split at h
    next hv => cases h; exact ⟨a, t, ht, rfl, hv⟩
    next => cases h
  next => cases h
/-- which of its ways a call of the tables takes -/
theorem zinv_ok {i j : Nat} {w} (h : zinv y pc L st X i j = some w) : ∃ k y', zcal (zown y) i = some (k, y') ∧
    ((j = 0 ∧ k = 0 ∧ zcallV y pc L st X y' = some w) ∨ (j = 1 ∧ k = 1 ∧ zcallS y pc L st y' = some w) ∨ (j = 1 ∧ k = 5 ∧ zcopy y pc L st X = some w) ∨ (j = 1 ∧ k = 6 ∧ zmax y pc L st X = some w) ∨ (j = 1 ∧ k = 7 ∧ zabs y pc L st X = some w) ∨ (2 ≤ j ∧ (k = 2 ∨ k = 3) ∧ zcallV y pc L st X y' = some w) ∨ (2 ≤ j ∧ k = 4 ∧ zinit y pc L st X = some w)) := by
  unfold zinv at h
  split at h
  next k y' hc =>
    refine ⟨k, y', hc, ?_⟩
    split at h
    next =>
      split at h
      next hk => exact Or.inl ⟨rfl, hk, h⟩
      next => cases h
    next =>
      split at h
      next hk => exact Or.inr (Or.inl ⟨rfl, hk, h⟩)
      next =>
        split at h
        next hk => exact Or.inr (Or.inr (Or.inl ⟨rfl, hk, h⟩))
        next =>
          split at h
          next hk => exact Or.inr (Or.inr (Or.inr (Or.inl ⟨rfl, hk, h⟩)))
          next =>
            split at h
            next hk => exact Or.inr (Or.inr (Or.inr (Or.inr (Or.inl ⟨rfl, hk, h⟩))))
            next => cases h
    next h0 h1 =>
      have hj : 2 ≤ j := by
        rcases (show j = 0 ∨ j = 1 ∨ 2 ≤ j by omega) with h | h | h
        · exact absurd h h0
        · exact absurd h h1
        · exact h
      split at h
      next hk => exact Or.inr (Or.inr (Or.inr (Or.inr (Or.inr (Or.inl ⟨hj, hk, h⟩)))))
      next =>
        split at h
        next hk => exact Or.inr (Or.inr (Or.inr (Or.inr (Or.inr (Or.inr ⟨hj, hk, h⟩)))))
        next => cases h
  next => cases h
theorem zle_zinv {i j : Nat} (h : zinv y pc L st X i j = some (.inl q)) : zLe L X q := by
  obtain ⟨k, y', -, h | h | h | h | h | h | h⟩ := zinv_ok h
  · obtain ⟨a, t, -, hw, -⟩ := zcallV_ok h.2.2; cases hw
  · obtain ⟨hw, -⟩ := zcallS_ok h.2.2; cases hw
  · exact zle_zcopy h.2.2
  · exact zle_zmax h.2.2
  · exact zle_zabs h.2.2
  · obtain ⟨a, t, -, hw, -⟩ := zcallV_ok h.2.2; cases hw
  · exact zle_zinit h.2.2
theorem zle_zins {i : Instr} (h : zins y pc i len L st X = some (.inl q)) : zLe L X q := by
  cases i with
  | iconst n =>
    simp only [zins] at h
    split at h
    next => cases h; exact ⟨Nat.le_refl _, Nat.le_refl _, rfl⟩
    next => cases h
  | bipush n =>
    simp only [zins] at h
    split at h
    next => cases h; exact ⟨Nat.le_refl _, Nat.le_refl _, rfl⟩
    next => cases h
  | sipush n =>
    simp only [zins] at h
    split at h
    next => cases h; exact ⟨Nat.le_refl _, Nat.le_refl _, rfl⟩
    next => cases h
  | lconst n =>
    simp only [zins] at h
    split at h
    next => cases h; exact ⟨Nat.le_refl _, Nat.le_refl _, rfl⟩
    next => cases h
  | iadd  =>
    simp only [zins] at h
    split at h
    next => exact zle_zb2 h
    next => cases h
  | isub  =>
    simp only [zins] at h
    split at h
    next => exact zle_zb2 h
    next => cases h
  | imul  =>
    simp only [zins] at h
    split at h
    next => exact zle_zb2 h
    next => cases h
  | iand  =>
    simp only [zins] at h
    split at h
    next => exact zle_zb2 h
    next => cases h
  | ior  =>
    simp only [zins] at h
    split at h
    next => exact zle_zb2 h
    next => cases h
  | ixor  =>
    simp only [zins] at h
    split at h
    next => exact zle_zb2 h
    next => cases h
  | ishl  =>
    simp only [zins] at h
    split at h
    next => exact zle_zb2 h
    next => cases h
  | ishr  =>
    simp only [zins] at h
    split at h
    next => exact zle_zb2 h
    next => cases h
  | iushr  =>
    simp only [zins] at h
    split at h
    next => exact zle_zb2 h
    next => cases h
  | idiv  =>
    simp only [zins] at h
    split at h
    next => exact zle_zb2z h
    next => cases h
  | irem  =>
    simp only [zins] at h
    split at h
    next => exact zle_zb2z h
    next => cases h
  | ladd  =>
    simp only [zins] at h
    split at h
    next => exact zle_zj2 h
    next => cases h
  | lsub  =>
    simp only [zins] at h
    split at h
    next => exact zle_zj2 h
    next => cases h
  | lmul  =>
    simp only [zins] at h
    split at h
    next => exact zle_zj2 h
    next => cases h
  | land  =>
    simp only [zins] at h
    split at h
    next => exact zle_zj2 h
    next => cases h
  | lor  =>
    simp only [zins] at h
    split at h
    next => exact zle_zj2 h
    next => cases h
  | lrem  =>
    simp only [zins] at h
    split at h
    next => exact zle_zj2z h
    next => cases h
  | lshl  =>
    simp only [zins] at h
    split at h
    next => exact zle_zji h
    next => cases h
  | lushr  =>
    simp only [zins] at h
    split at h
    next => exact zle_zji h
    next => cases h
  | ineg  =>
    simp only [zins] at h
    split at h
    next => exact zle_zi1 h
    next => cases h
  | i2l  =>
    simp only [zins] at h
    split at h
    next => exact zle_zi1 h
    next => cases h
  | i2c  =>
    simp only [zins] at h
    split at h
    next => exact zle_zi1 h
    next => cases h
  | l2i  =>
    simp only [zins] at h
    split at h
    next => exact zle_zl1 h
    next => cases h
  | lcmp  =>
    simp only [zins] at h
    split at h
    next => exact zle_zcmp h
    next => cases h
  | dup  =>
    simp only [zins] at h
    split at h
    next => exact zle_zdup h
    next => cases h
  | dup2  =>
    simp only [zins] at h
    split at h
    next => exact zle_zdup2 h
    next => cases h
  | pop  =>
    simp only [zins] at h
    split at h
    next => exact zle_zpop h
    next => cases h
  | iload i =>
    simp only [zins] at h
    split at h
    next => exact zle_zldI h
    next => cases h
  | iload_n i =>
    simp only [zins] at h
    split at h
    next => exact zle_zldI h
    next => cases h
  | lload i =>
    simp only [zins] at h
    split at h
    next => exact zle_zldJ h
    next => cases h
  | lload_n i =>
    simp only [zins] at h
    split at h
    next => exact zle_zldJ h
    next => cases h
  | aload i =>
    simp only [zins] at h
    split at h
    next => exact zle_zldA h
    next => cases h
  | aload_n i =>
    simp only [zins] at h
    split at h
    next => exact zle_zldA h
    next => cases h
  | istore i =>
    simp only [zins] at h
    split at h
    next => exact zle_zstI h
    next => cases h
  | istore_n i =>
    simp only [zins] at h
    split at h
    next => exact zle_zstI h
    next => cases h
  | lstore i =>
    simp only [zins] at h
    split at h
    next => exact zle_zstJ h
    next => cases h
  | lstore_n i =>
    simp only [zins] at h
    split at h
    next => exact zle_zstJ h
    next => cases h
  | astore_n i =>
    simp only [zins] at h
    split at h
    next => exact zle_zstA h
    next => cases h
  | ldc i =>
    simp only [zins] at h
    split at h
    next => exact zle_zcst h
    next => cases h
  | ldc_w i =>
    simp only [zins] at h
    split at h
    next => exact zle_zcst h
    next => cases h
  | ldc2_w i =>
    simp only [zins] at h
    split at h
    next => exact zle_zcst2 h
    next => cases h
  | getfield i =>
    simp only [zins] at h
    split at h
    next => exact zle_zget h
    next => cases h
  | putfield i =>
    simp only [zins] at h
    split at h
    next => exact zle_zput h
    next => cases h
  | iinc i n =>
    simp only [zins] at h
    split at h
    next => exact zle_zinc h
    next => cases h
  | iaload  =>
    simp only [zins] at h
    split at h
    next => exact zle_zald h
    next => cases h
  | baload  =>
    simp only [zins] at h
    split at h
    next => exact zle_zald h
    next => cases h
  | caload  =>
    simp only [zins] at h
    split at h
    next => exact zle_zald h
    next => cases h
  | iastore  =>
    simp only [zins] at h
    split at h
    next => exact zle_zast h
    next => cases h
  | bastore  =>
    simp only [zins] at h
    split at h
    next => exact zle_zast h
    next => cases h
  | castore  =>
    simp only [zins] at h
    split at h
    next => exact zle_zast h
    next => cases h
  | aaload  =>
    simp only [zins] at h
    split at h
    next => exact zle_zaald h
    next => cases h
  | aastore  =>
    simp only [zins] at h
    split at h
    next => exact zle_zaast h
    next => cases h
  | arraylength  =>
    simp only [zins] at h
    split at h
    next => exact zle_zalen h
    next => cases h
  | new i =>
    simp only [zins] at h
    split at h
    next => exact zle_znewo h
    next => cases h
  | anewarray i =>
    simp only [zins] at h
    split at h
    next => exact zle_znewr h
    next => cases h
  | ifCond cd off =>
    simp only [zins] at h
    split at h
    next =>
      split at h
      next => exact zle_zbr h
      next => cases h
    next => cases h
  | if_icmp cd off =>
    simp only [zins] at h
    split at h
    next =>
      split at h
      next => exact zle_zbr h
      next => cases h
    next => cases h
  | goto off =>
    simp only [zins] at h
    split at h
    next => exact zle_zjmp h
    next => cases h
  | tableswitch dflt lo hi offs => exact zle_ztab h
  | lookupswitch dflt ps => exact zle_zlook h
  | newarray ty =>
    cases ty with
    | int =>
      simp only [zins] at h
      split at h
      next => exact zle_znewa h
      next => cases h
    | boolean =>
      simp only [zins] at h
      split at h
      next => exact zle_znewa h
      next => cases h
    | char =>
      simp only [zins] at h
      split at h
      next => exact zle_znewa h
      next => cases h
    | _ => simp [zins] at h
  | invokevirtual i =>
    simp only [zins] at h
    split at h
    next => exact zle_zinv h
    next => cases h
  | invokestatic i =>
    simp only [zins] at h
    split at h
    next => exact zle_zinv h
    next => cases h
  | invokespecial i =>
    simp only [zins] at h
    split at h
    next => exact zle_zinv h
    next => cases h
  | ireturn =>
    simp only [zins] at h
    split at h
    next =>
      unfold zretI at h
      repeat' (split at h)
      all_goals cases h
    next => cases h
  | lreturn =>
    simp only [zins] at h
    split at h
    next =>
      unfold zretJ at h
      repeat' (split at h)
      all_goals cases h
    next => cases h
  | return_ =>
    simp only [zins] at h
    split at h
    next =>
      unfold zretV at h
      repeat' (split at h)
      all_goals cases h
    next => cases h
  | _ => simp [zins] at h
theorem zg_all {i : Instr} (C : zCtx p R s m args meth c y D cy kc ks) (hL0 : L.length = zmaxL y) (hd : decode (zcode y) pc = .ok (i, len)) (h : zins y pc i len L st X = some (.inl q)) (hm : q.2.2.2.1.length ≤ X'.1.length ∧ q.2.2.2.2.1 ≤ X'.2.1) (k : zGo p l e R s m args below meth c Q D cy B b H0 X' kc ks q.1 q.2.1 q.2.2.1 q.2.2.2) : zGo p l e R s m args below meth c Q D cy B b H0 X' kc ks pc L st X := by
  cases i with
  | iconst n => exact zg_iconst C hd h k
  | bipush n => exact zg_bipush C hd h k
  | sipush n => exact zg_sipush C hd h k
  | lconst n => exact zg_lconst C hd h k
  | iadd  => exact zg_iadd C hd h k
  | isub  => exact zg_isub C hd h k
  | imul  => exact zg_imul C hd h k
  | iand  => exact zg_iand C hd h k
  | ior  => exact zg_ior C hd h k
  | ixor  => exact zg_ixor C hd h k
  | ishl  => exact zg_ishl C hd h k
  | ishr  => exact zg_ishr C hd h k
  | iushr  => exact zg_iushr C hd h k
  | idiv  => exact zg_idiv C hd h k
  | irem  => exact zg_irem C hd h k
  | ladd  => exact zg_ladd C hd h k
  | lsub  => exact zg_lsub C hd h k
  | lmul  => exact zg_lmul C hd h k
  | land  => exact zg_land C hd h k
  | lor  => exact zg_lor C hd h k
  | lrem  => exact zg_lrem C hd h k
  | lshl  => exact zg_lshl C hd h k
  | lushr  => exact zg_lushr C hd h k
  | ineg  => exact zg_ineg C hd h k
  | i2l  => exact zg_i2l C hd h k
  | i2c  => exact zg_i2c C hd h k
  | l2i  => exact zg_l2i C hd h k
  | lcmp  => exact zg_lcmp C hd h k
  | dup  => exact zg_dup C hd h k
  | dup2  => exact zg_dup2 C hd h k
  | pop  => exact zg_pop C hd h k
  | iload i => exact zg_iload C hd h k
  | iload_n i => exact zg_iload_n C hd h k
  | lload i => exact zg_lload C hd h k
  | lload_n i => exact zg_lload_n C hd h k
  | aload i => exact zg_aload C hd h k
  | aload_n i => exact zg_aload_n C hd h k
  | istore i => exact zg_istore C hd h k
  | istore_n i => exact zg_istore_n C hd h k
  | lstore i => exact zg_lstore C hd h k
  | lstore_n i => exact zg_lstore_n C hd h k
  | astore_n i => exact zg_astore_n C hd h k
  | ldc i => exact zg_ldc C hd h k
  | ldc_w i => exact zg_ldc_w C hd h k
  | ldc2_w i => exact zg_ldc2_w C hd h k
  | getfield i => exact zg_getfield C hd h k
  | putfield i => exact zg_putfield C hd h k
  | iinc i n => exact zg_iinc C hd h k
  | iaload  => exact zg_iaload C hd h k
  | baload  => exact zg_baload C hd h k
  | caload  => exact zg_caload C hd h k
  | iastore  => exact zg_iastore C hd h k
  | bastore  => exact zg_bastore C hd h k
  | castore  => exact zg_castore C hd h k
  | aaload  => exact zg_aaload C hd h k
  | aastore  => exact zg_aastore C hd h k
  | arraylength  => exact zg_arraylength C hd h k
  | new i => exact zg_new C hd h hm k
  | anewarray i => exact zg_anewarray C hd h hm k
  | ifCond cd off =>
    cases cd with
    | eq => exact zg_if_eq C hd h k
    | ne => exact zg_if_ne C hd h k
    | lt => exact zg_if_lt C hd h k
    | ge => exact zg_if_ge C hd h k
    | gt => exact zg_if_gt C hd h k
    | le => exact zg_if_le C hd h k
  | if_icmp cd off =>
    cases cd with
    | eq => exact zg_icmp_eq C hd h k
    | ne => exact zg_icmp_ne C hd h k
    | lt => exact zg_icmp_lt C hd h k
    | ge => exact zg_icmp_ge C hd h k
    | gt => exact zg_icmp_gt C hd h k
    | le => exact zg_icmp_le C hd h k
  | goto off => exact zg_goto C hd h k
  | tableswitch dflt lo hi offs => exact zg_tab C hd h k
  | lookupswitch dflt ps => exact zg_look C hd h k
  | newarray ty =>
    cases ty with
    | int => exact zg_newarray_int C hd h hm k
    | boolean => exact zg_newarray_boolean C hd h hm k
    | char => exact zg_newarray_char C hd h hm k
    | _ => simp [zins] at h
  | invokevirtual i =>
    simp only [zins] at h
    split at h
    next hl =>
      obtain ⟨kd, y', hcal, h | h | h | h | h | h | h⟩ := zinv_ok h
      · obtain ⟨a, t, -, hw, -⟩ := zcallV_ok h.2.2; cases hw
      all_goals (exfalso; omega)
    next => cases h
  | invokestatic i =>
    simp only [zins] at h
    split at h
    next hl =>
      subst hl
      obtain ⟨kd, y', hcal, h | h | h | h | h | h | h⟩ := zinv_ok h
      · exact absurd h.1 (by decide)
      · obtain ⟨hw, -⟩ := zcallS_ok h.2.2; cases hw
      · obtain ⟨-, rfl, h⟩ := h
        exact zcopy_ok C hcal hL0 hd h k
      · obtain ⟨-, rfl, h⟩ := h
        exact zmax_ok C hcal hL0 hd h ⟨Nat.le_trans (zle_zmax h).1 hm.1, Nat.le_trans (zle_zmax h).2.1 hm.2⟩ k
      · obtain ⟨-, rfl, h⟩ := h
        exact zabs_ok C hcal hL0 hd h ⟨Nat.le_trans (zle_zabs h).1 hm.1, Nat.le_trans (zle_zabs h).2.1 hm.2⟩ k
      all_goals (exfalso; omega)
    next => cases h
  | invokespecial i =>
    simp only [zins] at h
    split at h
    next hl =>
      subst hl
      obtain ⟨kd, y', hcal, h | h | h | h | h | h | h⟩ := zinv_ok h
      · exact absurd h.1 (by decide)
      · exact absurd h.1 (by decide)
      · exact absurd h.1 (by decide)
      · exact absurd h.1 (by decide)
      · exact absurd h.1 (by decide)
      · obtain ⟨a, t, -, hw, -⟩ := zcallV_ok h.2.2; cases hw
      · obtain ⟨-, rfl, h⟩ := h
        exact zinit_ok C hcal hL0 hd h k
    next => cases h
  | ireturn =>
    simp only [zins] at h
    split at h
    next =>
      unfold zretI at h
      repeat' (split at h)
      all_goals cases h
    next => cases h
  | lreturn =>
    simp only [zins] at h
    split at h
    next =>
      unfold zretJ at h
      repeat' (split at h)
      all_goals cases h
    next => cases h
  | return_ =>
    simp only [zins] at h
    split at h
    next =>
      unfold zretV at h
      repeat' (split at h)
      all_goals cases h
    next => cases h
  | _ => simp [zins] at h
/-- a call comes of one of the three alone -/
theorem zcall_ins {i : Instr} {w : Nat × List Value × Nat × List Value × List Value} (h : zins y pc i len L st X = some (.inr (.inl w))) : ∃ k j : Nat, len = 3 ∧ ((j = 0 ∧ i = .invokevirtual k) ∨ (j = 1 ∧ i = .invokestatic k) ∨ (j = 2 ∧ i = .invokespecial k)) ∧ zinv y pc L st X k j = some (.inr (.inl w)) := by
  cases i with
  | iconst n =>
    simp only [zins] at h
    split at h <;> cases h
  | bipush n =>
    simp only [zins] at h
    split at h <;> cases h
  | sipush n =>
    simp only [zins] at h
    split at h <;> cases h
  | lconst n =>
    simp only [zins] at h
    split at h <;> cases h
  | iadd  =>
    simp only [zins] at h
    split at h
    next => exact (znr_zb2 h).elim
    next => cases h
  | isub  =>
    simp only [zins] at h
    split at h
    next => exact (znr_zb2 h).elim
    next => cases h
  | imul  =>
    simp only [zins] at h
    split at h
    next => exact (znr_zb2 h).elim
    next => cases h
  | iand  =>
    simp only [zins] at h
    split at h
    next => exact (znr_zb2 h).elim
    next => cases h
  | ior  =>
    simp only [zins] at h
    split at h
    next => exact (znr_zb2 h).elim
    next => cases h
  | ixor  =>
    simp only [zins] at h
    split at h
    next => exact (znr_zb2 h).elim
    next => cases h
  | ishl  =>
    simp only [zins] at h
    split at h
    next => exact (znr_zb2 h).elim
    next => cases h
  | ishr  =>
    simp only [zins] at h
    split at h
    next => exact (znr_zb2 h).elim
    next => cases h
  | iushr  =>
    simp only [zins] at h
    split at h
    next => exact (znr_zb2 h).elim
    next => cases h
  | idiv  =>
    simp only [zins] at h
    split at h
    next => exact (znr_zb2z h).elim
    next => cases h
  | irem  =>
    simp only [zins] at h
    split at h
    next => exact (znr_zb2z h).elim
    next => cases h
  | ladd  =>
    simp only [zins] at h
    split at h
    next => exact (znr_zj2 h).elim
    next => cases h
  | lsub  =>
    simp only [zins] at h
    split at h
    next => exact (znr_zj2 h).elim
    next => cases h
  | lmul  =>
    simp only [zins] at h
    split at h
    next => exact (znr_zj2 h).elim
    next => cases h
  | land  =>
    simp only [zins] at h
    split at h
    next => exact (znr_zj2 h).elim
    next => cases h
  | lor  =>
    simp only [zins] at h
    split at h
    next => exact (znr_zj2 h).elim
    next => cases h
  | lrem  =>
    simp only [zins] at h
    split at h
    next => exact (znr_zj2z h).elim
    next => cases h
  | lshl  =>
    simp only [zins] at h
    split at h
    next => exact (znr_zji h).elim
    next => cases h
  | lushr  =>
    simp only [zins] at h
    split at h
    next => exact (znr_zji h).elim
    next => cases h
  | ineg  =>
    simp only [zins] at h
    split at h
    next => exact (znr_zi1 h).elim
    next => cases h
  | i2l  =>
    simp only [zins] at h
    split at h
    next => exact (znr_zi1 h).elim
    next => cases h
  | i2c  =>
    simp only [zins] at h
    split at h
    next => exact (znr_zi1 h).elim
    next => cases h
  | l2i  =>
    simp only [zins] at h
    split at h
    next => exact (znr_zl1 h).elim
    next => cases h
  | lcmp  =>
    simp only [zins] at h
    split at h
    next => exact (znr_zcmp h).elim
    next => cases h
  | dup  =>
    simp only [zins] at h
    split at h
    next => exact (znr_zdup h).elim
    next => cases h
  | dup2  =>
    simp only [zins] at h
    split at h
    next => exact (znr_zdup2 h).elim
    next => cases h
  | pop  =>
    simp only [zins] at h
    split at h
    next => exact (znr_zpop h).elim
    next => cases h
  | iload i =>
    simp only [zins] at h
    split at h
    next => exact (znr_zldI h).elim
    next => cases h
  | iload_n i =>
    simp only [zins] at h
    split at h
    next => exact (znr_zldI h).elim
    next => cases h
  | lload i =>
    simp only [zins] at h
    split at h
    next => exact (znr_zldJ h).elim
    next => cases h
  | lload_n i =>
    simp only [zins] at h
    split at h
    next => exact (znr_zldJ h).elim
    next => cases h
  | aload i =>
    simp only [zins] at h
    split at h
    next => exact (znr_zldA h).elim
    next => cases h
  | aload_n i =>
    simp only [zins] at h
    split at h
    next => exact (znr_zldA h).elim
    next => cases h
  | istore i =>
    simp only [zins] at h
    split at h
    next => exact (znr_zstI h).elim
    next => cases h
  | istore_n i =>
    simp only [zins] at h
    split at h
    next => exact (znr_zstI h).elim
    next => cases h
  | lstore i =>
    simp only [zins] at h
    split at h
    next => exact (znr_zstJ h).elim
    next => cases h
  | lstore_n i =>
    simp only [zins] at h
    split at h
    next => exact (znr_zstJ h).elim
    next => cases h
  | astore_n i =>
    simp only [zins] at h
    split at h
    next => exact (znr_zstA h).elim
    next => cases h
  | ldc i =>
    simp only [zins] at h
    split at h
    next => exact (znr_zcst h).elim
    next => cases h
  | ldc_w i =>
    simp only [zins] at h
    split at h
    next => exact (znr_zcst h).elim
    next => cases h
  | ldc2_w i =>
    simp only [zins] at h
    split at h
    next => exact (znr_zcst2 h).elim
    next => cases h
  | getfield i =>
    simp only [zins] at h
    split at h
    next => exact (znr_zget h).elim
    next => cases h
  | putfield i =>
    simp only [zins] at h
    split at h
    next => exact (znr_zput h).elim
    next => cases h
  | iinc i n =>
    simp only [zins] at h
    split at h
    next => exact (znr_zinc h).elim
    next => cases h
  | iaload  =>
    simp only [zins] at h
    split at h
    next => exact (znr_zald h).elim
    next => cases h
  | baload  =>
    simp only [zins] at h
    split at h
    next => exact (znr_zald h).elim
    next => cases h
  | caload  =>
    simp only [zins] at h
    split at h
    next => exact (znr_zald h).elim
    next => cases h
  | iastore  =>
    simp only [zins] at h
    split at h
    next => exact (znr_zast h).elim
    next => cases h
  | bastore  =>
    simp only [zins] at h
    split at h
    next => exact (znr_zast h).elim
    next => cases h
  | castore  =>
    simp only [zins] at h
    split at h
    next => exact (znr_zast h).elim
    next => cases h
  | aaload  =>
    simp only [zins] at h
    split at h
    next => exact (znr_zaald h).elim
    next => cases h
  | aastore  =>
    simp only [zins] at h
    split at h
    next => exact (znr_zaast h).elim
    next => cases h
  | arraylength  =>
    simp only [zins] at h
    split at h
    next => exact (znr_zalen h).elim
    next => cases h
  | new i =>
    simp only [zins] at h
    split at h
    next => exact (znr_znewo h).elim
    next => cases h
  | anewarray i =>
    simp only [zins] at h
    split at h
    next => exact (znr_znewr h).elim
    next => cases h
  | ifCond cd off =>
    simp only [zins] at h
    split at h
    next =>
      split at h
      next => exact (znr_zbr h).elim
      next => cases h
    next => cases h
  | if_icmp cd off =>
    simp only [zins] at h
    split at h
    next =>
      split at h
      next => exact (znr_zbr h).elim
      next => cases h
    next => cases h
  | goto off =>
    simp only [zins] at h
    split at h
    next => exact (znr_zjmp h).elim
    next => cases h
  | tableswitch dflt lo hi offs => exact (znr_ztab h).elim
  | lookupswitch dflt ps => exact (znr_zlook h).elim
  | newarray ty =>
    cases ty with
    | int =>
      simp only [zins] at h
      split at h
      next => exact (znr_znewa h).elim
      next => cases h
    | boolean =>
      simp only [zins] at h
      split at h
      next => exact (znr_znewa h).elim
      next => cases h
    | char =>
      simp only [zins] at h
      split at h
      next => exact (znr_znewa h).elim
      next => cases h
    | _ => simp [zins] at h
  | ireturn =>
    simp only [zins] at h
    split at h
    next =>
      unfold zretI at h
      repeat' (split at h)
      all_goals cases h
    next => cases h
  | lreturn =>
    simp only [zins] at h
    split at h
    next =>
      unfold zretJ at h
      repeat' (split at h)
      all_goals cases h
    next => cases h
  | return_ =>
    simp only [zins] at h
    split at h
    next =>
      unfold zretV at h
      repeat' (split at h)
      all_goals cases h
    next => cases h
  | invokevirtual i =>
    simp only [zins] at h
    split at h
    next hl => exact ⟨i, 0, hl, by simp, h⟩
    next => cases h
  | invokestatic i =>
    simp only [zins] at h
    split at h
    next hl => exact ⟨i, 1, hl, by simp, h⟩
    next => cases h
  | invokespecial i =>
    simp only [zins] at h
    split at h
    next hl => exact ⟨i, 2, hl, by simp, h⟩
    next => cases h
  | _ => simp [zins] at h
theorem zret_ins {i : Instr} {r : Option Value} (hd : decode (zcode y) pc = .ok (i, len)) (h : zins y pc i len L st X = some (.inr (.inr r))) : zRt y pc r ∧ st = r.toList := by
  cases i with
  | iconst n =>
    simp only [zins] at h
    split at h <;> cases h
  | bipush n =>
    simp only [zins] at h
    split at h <;> cases h
  | sipush n =>
    simp only [zins] at h
    split at h <;> cases h
  | lconst n =>
    simp only [zins] at h
    split at h <;> cases h
  | iadd  =>
    simp only [zins] at h
    split at h
    next => exact (znr_zb2 h).elim
    next => cases h
  | isub  =>
    simp only [zins] at h
    split at h
    next => exact (znr_zb2 h).elim
    next => cases h
  | imul  =>
    simp only [zins] at h
    split at h
    next => exact (znr_zb2 h).elim
    next => cases h
  | iand  =>
    simp only [zins] at h
    split at h
    next => exact (znr_zb2 h).elim
    next => cases h
  | ior  =>
    simp only [zins] at h
    split at h
    next => exact (znr_zb2 h).elim
    next => cases h
  | ixor  =>
    simp only [zins] at h
    split at h
    next => exact (znr_zb2 h).elim
    next => cases h
  | ishl  =>
    simp only [zins] at h
    split at h
    next => exact (znr_zb2 h).elim
    next => cases h
  | ishr  =>
    simp only [zins] at h
    split at h
    next => exact (znr_zb2 h).elim
    next => cases h
  | iushr  =>
    simp only [zins] at h
    split at h
    next => exact (znr_zb2 h).elim
    next => cases h
  | idiv  =>
    simp only [zins] at h
    split at h
    next => exact (znr_zb2z h).elim
    next => cases h
  | irem  =>
    simp only [zins] at h
    split at h
    next => exact (znr_zb2z h).elim
    next => cases h
  | ladd  =>
    simp only [zins] at h
    split at h
    next => exact (znr_zj2 h).elim
    next => cases h
  | lsub  =>
    simp only [zins] at h
    split at h
    next => exact (znr_zj2 h).elim
    next => cases h
  | lmul  =>
    simp only [zins] at h
    split at h
    next => exact (znr_zj2 h).elim
    next => cases h
  | land  =>
    simp only [zins] at h
    split at h
    next => exact (znr_zj2 h).elim
    next => cases h
  | lor  =>
    simp only [zins] at h
    split at h
    next => exact (znr_zj2 h).elim
    next => cases h
  | lrem  =>
    simp only [zins] at h
    split at h
    next => exact (znr_zj2z h).elim
    next => cases h
  | lshl  =>
    simp only [zins] at h
    split at h
    next => exact (znr_zji h).elim
    next => cases h
  | lushr  =>
    simp only [zins] at h
    split at h
    next => exact (znr_zji h).elim
    next => cases h
  | ineg  =>
    simp only [zins] at h
    split at h
    next => exact (znr_zi1 h).elim
    next => cases h
  | i2l  =>
    simp only [zins] at h
    split at h
    next => exact (znr_zi1 h).elim
    next => cases h
  | i2c  =>
    simp only [zins] at h
    split at h
    next => exact (znr_zi1 h).elim
    next => cases h
  | l2i  =>
    simp only [zins] at h
    split at h
    next => exact (znr_zl1 h).elim
    next => cases h
  | lcmp  =>
    simp only [zins] at h
    split at h
    next => exact (znr_zcmp h).elim
    next => cases h
  | dup  =>
    simp only [zins] at h
    split at h
    next => exact (znr_zdup h).elim
    next => cases h
  | dup2  =>
    simp only [zins] at h
    split at h
    next => exact (znr_zdup2 h).elim
    next => cases h
  | pop  =>
    simp only [zins] at h
    split at h
    next => exact (znr_zpop h).elim
    next => cases h
  | iload i =>
    simp only [zins] at h
    split at h
    next => exact (znr_zldI h).elim
    next => cases h
  | iload_n i =>
    simp only [zins] at h
    split at h
    next => exact (znr_zldI h).elim
    next => cases h
  | lload i =>
    simp only [zins] at h
    split at h
    next => exact (znr_zldJ h).elim
    next => cases h
  | lload_n i =>
    simp only [zins] at h
    split at h
    next => exact (znr_zldJ h).elim
    next => cases h
  | aload i =>
    simp only [zins] at h
    split at h
    next => exact (znr_zldA h).elim
    next => cases h
  | aload_n i =>
    simp only [zins] at h
    split at h
    next => exact (znr_zldA h).elim
    next => cases h
  | istore i =>
    simp only [zins] at h
    split at h
    next => exact (znr_zstI h).elim
    next => cases h
  | istore_n i =>
    simp only [zins] at h
    split at h
    next => exact (znr_zstI h).elim
    next => cases h
  | lstore i =>
    simp only [zins] at h
    split at h
    next => exact (znr_zstJ h).elim
    next => cases h
  | lstore_n i =>
    simp only [zins] at h
    split at h
    next => exact (znr_zstJ h).elim
    next => cases h
  | astore_n i =>
    simp only [zins] at h
    split at h
    next => exact (znr_zstA h).elim
    next => cases h
  | ldc i =>
    simp only [zins] at h
    split at h
    next => exact (znr_zcst h).elim
    next => cases h
  | ldc_w i =>
    simp only [zins] at h
    split at h
    next => exact (znr_zcst h).elim
    next => cases h
  | ldc2_w i =>
    simp only [zins] at h
    split at h
    next => exact (znr_zcst2 h).elim
    next => cases h
  | getfield i =>
    simp only [zins] at h
    split at h
    next => exact (znr_zget h).elim
    next => cases h
  | putfield i =>
    simp only [zins] at h
    split at h
    next => exact (znr_zput h).elim
    next => cases h
  | iinc i n =>
    simp only [zins] at h
    split at h
    next => exact (znr_zinc h).elim
    next => cases h
  | iaload  =>
    simp only [zins] at h
    split at h
    next => exact (znr_zald h).elim
    next => cases h
  | baload  =>
    simp only [zins] at h
    split at h
    next => exact (znr_zald h).elim
    next => cases h
  | caload  =>
    simp only [zins] at h
    split at h
    next => exact (znr_zald h).elim
    next => cases h
  | iastore  =>
    simp only [zins] at h
    split at h
    next => exact (znr_zast h).elim
    next => cases h
  | bastore  =>
    simp only [zins] at h
    split at h
    next => exact (znr_zast h).elim
    next => cases h
  | castore  =>
    simp only [zins] at h
    split at h
    next => exact (znr_zast h).elim
    next => cases h
  | aaload  =>
    simp only [zins] at h
    split at h
    next => exact (znr_zaald h).elim
    next => cases h
  | aastore  =>
    simp only [zins] at h
    split at h
    next => exact (znr_zaast h).elim
    next => cases h
  | arraylength  =>
    simp only [zins] at h
    split at h
    next => exact (znr_zalen h).elim
    next => cases h
  | new i =>
    simp only [zins] at h
    split at h
    next => exact (znr_znewo h).elim
    next => cases h
  | anewarray i =>
    simp only [zins] at h
    split at h
    next => exact (znr_znewr h).elim
    next => cases h
  | ifCond cd off =>
    simp only [zins] at h
    split at h
    next =>
      split at h
      next => exact (znr_zbr h).elim
      next => cases h
    next => cases h
  | if_icmp cd off =>
    simp only [zins] at h
    split at h
    next =>
      split at h
      next => exact (znr_zbr h).elim
      next => cases h
    next => cases h
  | goto off =>
    simp only [zins] at h
    split at h
    next => exact (znr_zjmp h).elim
    next => cases h
  | tableswitch dflt lo hi offs => exact (znr_ztab h).elim
  | lookupswitch dflt ps => exact (znr_zlook h).elim
  | newarray ty =>
    cases ty with
    | int =>
      simp only [zins] at h
      split at h
      next => exact (znr_znewa h).elim
      next => cases h
    | boolean =>
      simp only [zins] at h
      split at h
      next => exact (znr_znewa h).elim
      next => cases h
    | char =>
      simp only [zins] at h
      split at h
      next => exact (znr_znewa h).elim
      next => cases h
    | _ => simp [zins] at h
  | invokevirtual i =>
    simp only [zins] at h
    split at h
    next hl =>
      exfalso
      obtain ⟨kd, y', -, h | h | h | h | h | h | h⟩ := zinv_ok h
      · obtain ⟨a, t, -, hw, -⟩ := zcallV_ok h.2.2; cases hw
      · obtain ⟨hw, -⟩ := zcallS_ok h.2.2; cases hw
      · exact znr_zcopy h.2.2
      · exact znr_zmax h.2.2
      · exact znr_zabs h.2.2
      · obtain ⟨a, t, -, hw, -⟩ := zcallV_ok h.2.2; cases hw
      · exact znr_zinit h.2.2
    next => cases h
  | invokestatic i =>
    simp only [zins] at h
    split at h
    next hl =>
      exfalso
      obtain ⟨kd, y', -, h | h | h | h | h | h | h⟩ := zinv_ok h
      · obtain ⟨a, t, -, hw, -⟩ := zcallV_ok h.2.2; cases hw
      · obtain ⟨hw, -⟩ := zcallS_ok h.2.2; cases hw
      · exact znr_zcopy h.2.2
      · exact znr_zmax h.2.2
      · exact znr_zabs h.2.2
      · obtain ⟨a, t, -, hw, -⟩ := zcallV_ok h.2.2; cases hw
      · exact znr_zinit h.2.2
    next => cases h
  | invokespecial i =>
    simp only [zins] at h
    split at h
    next hl =>
      exfalso
      obtain ⟨kd, y', -, h | h | h | h | h | h | h⟩ := zinv_ok h
      · obtain ⟨a, t, -, hw, -⟩ := zcallV_ok h.2.2; cases hw
      · obtain ⟨hw, -⟩ := zcallS_ok h.2.2; cases hw
      · exact znr_zcopy h.2.2
      · exact znr_zmax h.2.2
      · exact znr_zabs h.2.2
      · obtain ⟨a, t, -, hw, -⟩ := zcallV_ok h.2.2; cases hw
      · exact znr_zinit h.2.2
    next => cases h
  | ireturn =>
    simp only [zins] at h
    split at h
    next hl =>
      subst hl
      unfold zretI at h
      split at h
      next xx =>
        split at h
        next ty hty =>
          split at h
          next hn => cases h; exact ⟨⟨hd, ty, hty, hn⟩, rfl⟩
          next => cases h
        next => cases h
      next => cases h
    next => cases h
  | lreturn =>
    simp only [zins] at h
    split at h
    next hl =>
      subst hl
      unfold zretJ at h
      split at h
      next xx =>
        split at h
        next hty => cases h; exact ⟨⟨hd, hty⟩, rfl⟩
        next => cases h
      next => cases h
    next => cases h
  | return_ =>
    simp only [zins] at h
    split at h
    next hl =>
      subst hl
      unfold zretV at h
      split at h
      next =>
        split at h
        next hty => cases h; exact ⟨⟨hd, hty⟩, rfl⟩
        next => cases h
      next => cases h
    next => cases h
  | _ => simp [zins] at h
end ZG
/-- EVERY RUN of the small machine that ends is one of the given machine -/
theorem zsim : ∀ (n y pc : Nat) (L st : List Value) (X : zX) (r : Option Value) (X' : zX), zrun n y pc L st X = some (r, X') → zSim y pc L st X r X' := by
  intro n
  induction n with
  | zero => intro y pc L st X r X' h; cases h
  | succ n ih =>
    intro y pc L st X r X' h
    rw [zrun] at h
    split at h
    next => cases h
    next q e =>
      have hq := ih _ _ _ _ _ _ _ h
      unfold zstep at e
      split at e
      next d hd =>
        obtain ⟨i, len⟩ := d
        obtain ⟨l1, l2, l3⟩ := zle_zins e
        exact ⟨Nat.le_trans l1 hq.1, Nat.le_trans l2 hq.2.1, fun p l e' R s m args below meth c Q D cy B b H0 kc ks C hL0 hE => zg_all C hL0 hd e ⟨hq.1, hq.2.1⟩ (hq.2.2 p l e' R s m args below meth c Q D cy B b H0 kc ks C (by rw [l3]; exact hL0) hE)⟩
      next => cases e
    next w e =>
      split at h
      next => cases h
      next v e2 =>
        obtain ⟨r1, X1⟩ := v
        have h1 := ih _ _ _ _ _ _ _ e2
        have h2 := ih _ _ _ _ _ _ _ h
        refine ⟨Nat.le_trans h1.1 h2.1, Nat.le_trans h1.2.1 h2.2.1, fun p l e' R s m args below meth c Q D cy B b H0 kc ks C hL0 hE => ?_⟩
        unfold zstep at e
        split at e
        next d hd =>
          obtain ⟨i, len⟩ := d
          dsimp only at e
          obtain ⟨k, j, rfl, hi, hv⟩ := zcall_ins e
          obtain ⟨kd, y', hcal, hv | hv | hv | hv | hv | hv | hv⟩ := zinv_ok hv
          · obtain ⟨hj, rfl, hv⟩ := hv
            obtain ⟨a, t, ht, hw, h3, h4, h5, h6, h7⟩ := zcallV_ok hv
            cases hw
            rcases hi with ⟨-, rfl⟩ | ⟨hj2, -⟩ | ⟨hj2, -⟩
            · exact zg_callV C hL0 hcal hd h3 (by rw [List.length_reverse]; exact h4) (by rw [List.reverse_reverse, ← ht]; exact (List.take_append_drop _ _).symm) h5 h6 h7 h1 ⟨h2.1, h2.2.1⟩ (h2.2.2 p l e' R s m args below meth c Q D cy B b H0 kc ks C hL0 hE)
            · omega
            · omega
          · obtain ⟨hj, rfl, hv⟩ := hv
            obtain ⟨hw, h3, h4, h5, h7⟩ := zcallS_ok hv
            cases hw
            rcases hi with ⟨hj2, -⟩ | ⟨-, rfl⟩ | ⟨hj2, -⟩
            · omega
            · exact zg_callS C hL0 hcal hd h3 (by rw [List.length_reverse]; exact h4) (by rw [List.reverse_reverse]; exact (List.take_append_drop _ _).symm) h5 h7 h1 ⟨h2.1, h2.2.1⟩ (h2.2.2 p l e' R s m args below meth c Q D cy B b H0 kc ks C hL0 hE)
            · omega
          · exact (znr_zcopy hv.2.2).elim
          · exact (znr_zmax hv.2.2).elim
          · exact (znr_zabs hv.2.2).elim
          · obtain ⟨hj, hk, hv⟩ := hv
            obtain ⟨a, t, ht, hw, h3, h4, h5, h6, h7⟩ := zcallV_ok hv
            cases hw
            rcases hi with ⟨hj2, -⟩ | ⟨hj2, -⟩ | ⟨-, rfl⟩
            · omega
            · omega
            · rcases hk with rfl | rfl
              · exact zg_callI C hL0 hcal hd h3 (by rw [List.length_reverse]; exact h4) (by rw [List.reverse_reverse, ← ht]; exact (List.take_append_drop _ _).symm) h5 h7 h1 ⟨h2.1, h2.2.1⟩ (h2.2.2 p l e' R s m args below meth c Q D cy B b H0 kc ks C hL0 hE)
              · exact zg_callN C hL0 hcal hd h3 (by rw [List.length_reverse]; exact h4) (by rw [List.reverse_reverse, ← ht]; exact (List.take_append_drop _ _).symm) h5 h7 h1 ⟨h2.1, h2.2.1⟩ (h2.2.2 p l e' R s m args below meth c Q D cy B b H0 kc ks C hL0 hE)
          · exact (znr_zinit hv.2.2).elim
        next => cases e
    next r0 e =>
      cases h
      refine ⟨Nat.le_refl _, Nat.le_refl _, fun p l e' R s m args below meth c Q D cy B b H0 kc ks C hL0 hE => ?_⟩
      unfold zstep at e
      split at e
      next d hd =>
        obtain ⟨i, len⟩ := d
        obtain ⟨h1, rfl⟩ := zret_ins hd e
        intro H ls locs cells slots hR hS hL hc hs
        have e1 : cells = kc := by omega
        have e2 : slots = ks := by omega
        subst e1; subst e2
        exact hE H ls locs pc hR hS h1
      next => cases e
end

