/-! cells: fields, rows -/
section
set_option maxRecDepth 100000
theorem zcl_at {c : Nat} (h : c < 6) : zcl[c]? = some (zOn c, zTT c, zNF c) := by
  rcases (show c = 0 ∨ c = 1 ∨ c = 2 ∨ c = 3 ∨ c = 4 ∨ c = 5 by omega) with rfl | rfl | rfl | rfl | rfl | rfl <;> rfl
theorem zcl_in {c : Nat} (h : c < 6) : ∀ w ∈ u_ws (zOn c) (zTT c) (zNF c), w ∈ zTb := by
  intro w hw
  obtain ⟨k, hk, rfl⟩ := List.mem_map.mp hw
  refine List.mem_filter.mpr ⟨zcl_u c h k (List.mem_range.mp hk), ?_⟩
  unfold u_lay
  split <;> rfl
theorem zcl_ty {c : Nat} (h : c < 6) : ∀ k, k < zNF c → parseFieldDescriptor (zTT c k).2.2.1 = some (ztt c k) := by
  rcases (show c = 0 ∨ c = 1 ∨ c = 2 ∨ c = 3 ∨ c = 4 ∨ c = 5 by omega) with rfl | rfl | rfl | rfl | rfl | rfl
  · exact tyX0_ok
  · exact tyX1_ok
  · exact tyX2_ok
  · exact tyX3_ok
  · exact tyX4_ok
  · exact tyX5_ok
theorem zcl_nm {c : Nat} (h : c < 6) : ∀ a, a < zNF c → ∀ b, b < zNF c → a ≠ b → (zTT c a).2.1 ≠ (zTT c b).2.1 := by
  rcases (show c = 0 ∨ c = 1 ∨ c = 2 ∨ c = 3 ∨ c = 4 ∨ c = 5 by omega) with rfl | rfl | rfl | rfl | rfl | rfl
  · exact nmX0
  · exact nmX1
  · exact nmX2
  · exact nmX3
  · exact nmX4
  · exact nmX5
theorem zfld_ok {o i : Nat} {q : (Nat × Nat) × Nat} (h : zfld o i = some q) : (∃ n : Nat, lw_tbl[n]? = some (Cond.fieldLink (zOn o) i (zTT q.1.1 q.1.2).1 (zTT q.1.1 q.1.2).2.1 (zTT q.1.1 q.1.2).2.2.1)) ∧ q.1.2 < zNF q.1.1 ∧ q.1.1 < 6 := by
  obtain ⟨r, h1, h2⟩ := Option.map_eq_some_iff.mp h
  have h3 := List.find?_some h1
  have h4 := zFt_ok r (List.mem_of_find?_eq_some h1)
  simp only [Bool.and_eq_true, beq_iff_eq] at h3
  simp only [zFchk, Bool.and_eq_true, decide_eq_true_eq] at h4
  obtain ⟨⟨a1, a2⟩, a3⟩ := r
  obtain ⟨e1, e2⟩ := h3
  dsimp only at e1 e2 h2
  subst e1; subst e2; subst h2
  exact ⟨⟨_, h4.1.1⟩, h4.1.2, h4.2⟩
theorem zgF_ok {h : List zC} {a c k : Nat} {v : Value} (e : zgF h a c k = some v) : ∃ fs, h[a]? = some (zob c fs) ∧ fs[k]? = some v := by
  unfold zgF at e
  split at e
  next q hq =>
    split at e
    next hc => subst hc; exact ⟨q.2, hq, e⟩
    next => cases e
  next => cases e
theorem zpF_ok {h h' : List zC} {a c k : Nat} {v : Value} (e : zpF h a c k v = some h') : ∃ fs, h[a]? = some (zob c fs) ∧ k < fs.length ∧ h' = h.set a (zob c (fs.set k v)) := by
  unfold zpF at e
  split at e
  next q hq =>
    split at e
    next hc =>
      obtain ⟨h1, h2⟩ := hc
      subst h1
      cases e
      exact ⟨q.2, hq, h2, rfl⟩
    next => cases e
  next => cases e
theorem zgA_ok {h : List zC} {a : Nat} {ty : FieldType} {q : Nat × (Nat → Int32)} (e : zgA h a ty = some q) : h[a]? = some (zar ty q.1 q.2) := by
  unfold zgA at e
  split at e
  next r hr =>
    split at e
    next hc => subst hc; cases e; exact hr
    next => cases e
  next => cases e
theorem zgR_ok {h : List zC} {a : Nat} {q : Nat × (Nat → Option Nat)} (e : zgR h a = some q) : h[a]? = some (zrr q.1 q.2) := by
  unfold zgR at e
  split at e
  next r hr => cases e; exact hr
  next => cases e
theorem zisO_ok {h : List zC} {a c : Nat} (e : zisO h a c = true) : ∃ fs, h[a]? = some (zob c fs) := by
  unfold zisO at e
  split at e
  next q hq => rw [beq_iff_eq] at e; subst e; exact ⟨q.2, hq⟩
  next => cases e
theorem zfits_ok {ty : FieldType} {v : Value} (B b : Nat) (h : zfits ty v = true) : narrow ty (zsh B b v) = zsh B b v ∧ fits ty (zsh B b v) = true := by
  unfold zfits at h
  split at h
  · exact ⟨rfl, rfl⟩
  · simp only [Bool.and_eq_true, decide_eq_true_eq] at h
    exact h
  · exact ⟨rfl, rfl⟩
  · exact ⟨rfl, rfl⟩
  · cases h
section ZG
variable {p : Program} {l : Launch} {e : Env} {R : Room} {s : State} {m : MethodId} {args : Array Value} {below : List Frame} {meth : Method} {c : Code} {Q : State → Prop} {y : Nat} {D : va_G} {cy : FieldType → ClassId} {B b : Nat} {H0 : Heap} {X' : zX} {kc ks : Nat}
variable {pc len : Nat} {L st : List Value} {X : zX} {q : Nat × List Value × List Value × zX}
/-- a cell was written over -/
theorem zRep_set {H H1 : Heap} {a : Nat} {c0 c1 : zC} (hR : zRep D cy B b s X H) (h0 : X.1[a]? = some c0) (he : va_at D zcl (B + a, zenc B b cy c1) H1) (hz : H1.size = H.size) (oq : ∀ q : Nat, q ≠ B + a → H1[q]? = H[q]?) : zRep D cy B b s (X.1.set a c1, X.2) H1 := by
  obtain ⟨h1, h2, h3, h4⟩ := hR
  refine ⟨by rw [hz, h1, List.length_set], ?_, h3, h4.kept (oq b (by omega))⟩
  have := h2.set (zW_D B b cy X.1) (zW_get h0) he oq
  rw [zW_set] at this
  exact this
/-- a cell came to them -/
theorem zRep_push {H H1 : Heap} {c1 : zC} {w : Nat} (hR : zRep D cy B b s X H) (he : va_at D zcl (B + X.1.length, zenc B b cy c1) H1) (hz : H1.size = B + X.1.length + 1) (oq : ∀ q : Nat, q < B + X.1.length → H1[q]? = H[q]?) : zRep D cy B b s (X.1 ++ [c1], (w, X.2.2)) H1 := by
  obtain ⟨h1, h2, h3, h4⟩ := hR
  refine ⟨by rw [hz, List.length_append]; rfl, ?_, h3, h4.kept (oq b (by omega))⟩
  show va_P D zcl (zW B b cy (X.1 ++ [c1])) H1
  rw [zW_push]
  refine (h2.kept (fun k q hk => oq q.1 ?_)).app (fun k q hk => ?_)
  · rw [← h1]; exact (h2 k q hk).lt
  · have hz : k < 1 := (List.getElem?_eq_some_iff.mp hk).1
    rw [show k = 0 by omega] at hk
    cases hk
    exact he
theorem zg_getfield {i : Nat} (C : zCtx p R s m args meth c y D cy kc ks) (hd : decode (zcode y) pc = .ok (.getfield i, len)) (h : zins y pc (.getfield i) len L st X = some (.inl q)) (k : zGo p l e R s m args below meth c Q D cy B b H0 X' kc ks q.1 q.2.1 q.2.2.1 q.2.2.2) : zGo p l e R s m args below meth c Q D cy B b H0 X' kc ks pc L st X := by
  simp only [zins] at h
  split at h
  next hl =>
    subst hl
    unfold zget at h
    split at h
    next r hr =>
      split at h
      next a t =>
        split at h
        next v hv =>
          cases h
          intro H ls locs cells slots hR hS hL hc hs
          obtain ⟨⟨n, hn⟩, hlt, h7⟩ := zfld_ok hr
          obtain ⟨fs, hfs, hfk⟩ := zgF_ok hv
          exact va_get (D := D) (ci := r.1.1) (v := zsh B b v) C.1 C.2.1 C.2.2.2.2.2.1 (zcl_in h7) C.2.2.2.2.1 C.2.2.2.2.2.2.1.1 hR.2.1 a (zW_get hfs) (zcl_at h7) r.1.2 hlt (zin_tb C hn rfl) (fun _ h9 => h9) (by simp [hfk]) hd (k H ls locs cells slots hR hS hL hc hs)
        next => cases h
      next => cases h
    next => cases h
  next => cases h
theorem zg_putfield {i : Nat} (C : zCtx p R s m args meth c y D cy kc ks) (hd : decode (zcode y) pc = .ok (.putfield i, len)) (h : zins y pc (.putfield i) len L st X = some (.inl q)) (k : zGo p l e R s m args below meth c Q D cy B b H0 X' kc ks q.1 q.2.1 q.2.2.1 q.2.2.2) : zGo p l e R s m args below meth c Q D cy B b H0 X' kc ks pc L st X := by
  simp only [zins] at h
  split at h
  next hl =>
    subst hl
    unfold zput at h
    split at h
    next r hr =>
      split at h
      next v a t =>
        split at h
        next hok =>
          split at h
          next h' hh' =>
            cases h
            intro H ls locs cells slots hR hS hL hc hs
            obtain ⟨⟨n, hn⟩, hlt, h7⟩ := zfld_ok hr
            obtain ⟨fs, hfs, hfk, rfl⟩ := zpF_ok hh'
            obtain ⟨hnar, hfit⟩ := zfits_ok B b hok.1
            have hK := C.2.2.2.2.2.2.1.1
            have hts := C.2.2.2.2.2.1
            have hown := C.2.2.2.2.1
            have hap := va_apart (own := zOn (zown y)) hts (zcl_in h7) (ztt r.1.1) (zcl_ty h7) (zcl_nm h7) hK (zcl_at h7)
            obtain ⟨r0, h1, cell, q1, q2, q3, q4⟩ := hR.2.1 a _ (zW_get hfs)
            have hr0 : r0 = (zOn r.1.1, zTT r.1.1, zNF r.1.1) := Option.some.inj (h1.symm.trans (zcl_at h7))
            subst hr0
            obtain ⟨hSl, hfc, kC, hkC, hkind⟩ := hK.1 r.1.1 _ (zcl_at h7)
            obtain ⟨cf, kf, fi, f, hi, hsl⟩ := hSl r.1.2 hlt
            have hst := (u_facts hfc hkC (u_lays hts (zcl_in h7) hlt) hi).1
            have hlay := hts _ (zcl_in h7 _ (u_in_lay hlt))
            have hend : ∀ H1 : Heap, H1[B + a]? = some (cell.setSlot (D.2 r.1.1 r.1.2) (zsh B b v)) → H1.size = H.size → (∀ q, q ≠ B + a → H1[q]? = H[q]?) → W p l e R s m args below meth c H1 (locs ++ [⟨B + a, D.2 r.1.1 r.1.2⟩]) cells slots Q (F0 m (pc + 3) ls (t.map (zsh B b))) := by
              intro H1 e1 e2 e3
              refine k H1 ls _ cells slots (zRep_set hR hfs ?_ e2 e3) (hS.put e2 e3 (Nat.le_add_right B a)) hL ?_ hs
              · refine ⟨_, zcl_at h7, t_OB.to (V := updV (vp_V (fs.map (zsh B b))) r.1.2 (zsh B b v)) ⟨_, e1, q2, q3, t_set q4 hap hlt (zsh B b v)⟩ (fun j _ => ?_)⟩
                rw [vp_updV_set (by rw [List.length_map]; exact hfk)]
                show vp_V _ j = vp_V ((fs.set r.1.2 v).map (zsh B b)) j
                rw [List.map_set]
              · rw [List.length_set]; exact hc
            rcases hok.2 with hfin | ⟨hini, hdecl⟩
            · unfold u_lay at hlay
              rw [if_neg (by rw [hfin]; decide)] at hlay
              have h6 := u_store hfc hkC hkind hlay hi (zcl_ty h7 _ hlt) hnar hfit
              refine W.putK C.1 C.2.1 (f := f) ⟨hown, zin_tb C hn rfl, ⟨_, _, _, hi⟩, hst⟩ (by rw [q2]; exact h6) q1 q3 (by rw [hsl]; exact k2_hasslot (q4 _ hlt)) rfl rfl hd fun H1 e1 e2 e3 => ?_
              rw [hsl] at e1 ⊢
              exact hend H1 e1 e2 e3
            · by_cases hfin : (zTT r.1.1 r.1.2).2.2.2 = true
              · unfold u_lay at hlay
                rw [if_pos hfin] at hlay
                have hcf : m.cls = cf := by
                  obtain ⟨_, _, c', _, _, _, -, -, hf', -, -, -, hown2, -⟩ := Cond.laysFinal_spec hlay
                  have e1 : c' = cf := by have := hi.symm.trans hf'; simp at this; exact this.1.symm
                  rw [hdecl] at hown2
                  rw [← e1]; exact Option.some.inj (hown.symm.trans hown2)
                have h6 := u_fits hfc hkC hkind (Or.inr hlay) hi (zcl_ty h7 _ hlt) hnar hfit
                refine W.putFinK C.1 C.2.1 hown (zin_tb C hn rfl) hi hst hcf (C.2.2.2.2.2.2.2.2.1 hini) (by rw [q2]; exact h6) q1 q3 (by rw [hsl]; exact k2_hasslot (q4 _ hlt)) rfl rfl hd fun H1 e1 e2 e3 => ?_
                rw [hsl] at e1 ⊢
                exact hend H1 e1 e2 e3
              · have hfin : (zTT r.1.1 r.1.2).2.2.2 = false := by simpa using hfin
                unfold u_lay at hlay
                rw [if_neg (by rw [hfin]; decide)] at hlay
                have h6 := u_store hfc hkC hkind hlay hi (zcl_ty h7 _ hlt) hnar hfit
                refine W.putK C.1 C.2.1 (f := f) ⟨hown, zin_tb C hn rfl, ⟨_, _, _, hi⟩, hst⟩ (by rw [q2]; exact h6) q1 q3 (by rw [hsl]; exact k2_hasslot (q4 _ hlt)) rfl rfl hd fun H1 e1 e2 e3 => ?_
                rw [hsl] at e1 ⊢
                exact hend H1 e1 e2 e3
          next => cases h
        next => cases h
      next => cases h
    next => cases h
  next => cases h
end ZG
end
