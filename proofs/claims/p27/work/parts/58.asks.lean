/-! what the law's questions answer -/
section
set_option maxRecDepth 100000
section AS
variable {a : Nat → Int32} {s l n : Nat}
theorem qC_0 : qCt a l n 0 = a 2 := rfl
theorem qC_1 : qCt a l n 1 = a 3 := rfl
theorem qC_2 : qCt a l n 2 = tot a (gN a 3) := rfl
theorem qC_3 : qCt a l n 3 = nbl a (a 0) (gN a 3) := rfl
theorem qC_4 : qCt a l n 4 = a 4 := rfl
theorem qC_5 : qCt a l n 5 = ntp a (gN a 2) := rfl
theorem qC_8 : qCt a l n 8 = a 0 := rfl
theorem qO_i (hg : zG a) (hs : s < gN a 2) (w : Int32) : qOf a (nI s) w = qOfI a s w := by
  have b2 := hg.2.2.1.2
  unfold qOf
  rw [if_pos (zinb_nI hs (by omega)), nI_clamp (by omega)]
theorem qO_0 (hg : zG a) (hs : s < gN a 2) : qOf a (nI s) 0 = a (5 + s) := qO_i hg hs 0
theorem qO_1 (hg : zG a) (hs : s < gN a 2) : qOf a (nI s) 1 = a (17 + s) := qO_i hg hs 1
theorem qO_2 (hg : zG a) (hs : s < gN a 2) : qOf a (nI s) 2 = a (29 + s) := qO_i hg hs 2
theorem qO_3 (hg : zG a) (hs : s < gN a 2) : qOf a (nI s) 3 = nI (ldN a s (gN a 3)) := (qO_i hg hs 3).trans (ldF_N a s _)
theorem qO_4 (hg : zG a) (hs : s < gN a 2) : qOf a (nI s) 4 = nI (fsN a s) := (qO_i hg hs 4).trans (fsh_N hg hs)
theorem qM_i (hg : zG a) {k w : Nat} (hk : k < gN a 4) (hw : w < 3) : qMv a (nI k) (nI w) = a (121 + 3 * k + w) := by
  have b4 := hg.2.2.2.2.1.2
  unfold qMv
  rw [if_pos (zinb_nI hk (by omega)), if_pos (zinb_nI hw (by decide)), nI_clamp (by omega), nI_clamp (by omega)]
theorem qB_i (hg : zG a) {k : Nat} (hk : k < gN a 3) (w : Int32) : qOb a (nI k) w = qObI a k w := by
  have b3 := hg.2.2.2.1.2
  unfold qOb
  rw [if_pos (zinb_nI hk (by omega)), nI_clamp (by omega)]
theorem qB_0 (hg : zG a) {k : Nat} (hk : k < gN a 3) : qOb a (nI k) 0 = a (41 + k) := qB_i hg hk 0
theorem qB_1 (hg : zG a) {k : Nat} (hk : k < gN a 3) : qOb a (nI k) 1 = a (81 + k) := qB_i hg hk 1
theorem qB_2 (hg : zG a) {k : Nat} (hk : k < gN a 3) : qOb a (nI k) 2 = nI (cps a) := by
  rw [qB_i hg hk 2]
  show nI (plK a k).length = _
  rw [plK_len hg]
theorem qS_i (hg : zG a) (hs : pt a s = true) {o : Nat} (ho : o ≤ 9999) : qSt a (nI s) (nI o) = nI (lenS a s o) := by
  have b2 := hg.2.2.1.2
  obtain ⟨h1, h2⟩ := pt_ex hs
  unfold qSt
  rw [nI_clamp (by omega), nI_clamp (by omega), if_pos (zinb_nI h1 (by omega)), if_pos (zinb_nI (by omega) (by decide)), if_pos h2]
theorem qP_i (hg : zG a) (ha : asc a) {k c : Nat} (hk : k < gN a 3) (hc : c < 2 ^ 31) : qPl a (a (41 + k)) (nI c) = plG (plK a k) (nI c) := by
  have b3 := hg.2.2.2.1.2
  have g := (hg.2.2.2.2.2.2 k hk).1
  obtain ⟨f1, f2⟩ := fnd_at hg ha hk
  have z1 : zinb (a (41 + k)) 10000 = true := by rw [g.1]; exact zinb_nI (by omega) (by decide)
  unfold qPl
  rw [if_pos ⟨z1, nI_pos hc⟩, if_neg f1, f2, nI_clamp (by omega)]
theorem plG_lt {l : List Nat} {c : Nat} (hl : l.length < 2 ^ 31) (h : c < l.length) : plG l (nI c) = nI (l.getD c 0) := by
  unfold plG
  rw [if_pos (zinb_nI h hl), nI_clamp (by omega)]
theorem plG_ge {l : List Nat} {c : Nat} (hl : l.length < 2 ^ 31) (hc : c < 2 ^ 31) (h : l.length ≤ c) : plG l (nI c) = -6 := by
  unfold plG
  have : zinb (nI c) l.length = false := (zinb_no hl).mpr (Or.inr (nI_le h hc))
  rw [if_neg (by rw [this]; decide)]
theorem getD_in {l : List Nat} {c : Nat} (h : c < l.length) : l.getD c 0 ∈ l := by
  rw [List.getD_eq_getElem?_getD, List.getElem?_eq_getElem h]
  exact List.getElem_mem h
/-- what the changes leave, of numbers that fit -/
theorem chW_i (hg : zG a) {w : Nat} (hs : s < gN a 2) (hw : w ≤ 16) : chW a (nI s) (nI w) = (fmA a (upd a (17 + s) (nI w)) 4, fmA a (upd a (17 + s) (nI w))) := by
  have b2 := hg.2.2.1.2
  unfold chW
  rw [if_pos (zinb_nI hs (by omega)), if_pos (zinb_nI (by omega) (by decide)), nI_clamp (by omega)]
theorem chR_i (hg : zG a) {w : Nat} (hs : s < gN a 2) (hw : w < 6) : chR a (nI s) (nI w) = (fmA a (upd a (5 + s) (nI w)) 4, fmA a (upd a (5 + s) (nI w))) := by
  have b2 := hg.2.2.1.2
  unfold chR
  rw [if_pos (zinb_nI hs (by omega)), if_pos (zinb_nI (by omega) (by decide)), nI_clamp (by omega)]
theorem chD_i (hg : zG a) {d : Int32} (hs : s < gN a 2) (hd : ¬ a (29 + s) = d) : chD a (nI s) d = (fmA a (upd a (29 + s) d) 4, fmA a (upd a (29 + s) d)) := by
  have b2 := hg.2.2.1.2
  unfold chD
  rw [if_pos (zinb_nI hs (by omega)), nI_clamp (by omega), if_neg hd]
theorem chB_i (hg : zG a) {r w : Nat} (hr : r < 6) (hw : w ≤ 16) (h12 : gN a 2 < 12) : chB a (nI r) (nI w) = (a 2, fmA a (bldA a (nI r) (nI w))) := by
  unfold chB
  rw [if_pos ⟨zinb_nI hr (by decide), zinb_nI (by omega) (by decide)⟩, if_pos h12, ← hg.2.2.1.1]
theorem chS_0 {c : Nat} (h1 : 1 ≤ c) (h3 : c ≤ 3) : chS a 0 (nI c) = (fmA a (upd a 0 (nI c)) 4, fmA a (upd a 0 (nI c))) := by
  unfold chS
  rw [if_pos ⟨rfl, nI_le (a := 1) h1 (by omega), nI_le (b := 3) h3 (by decide)⟩]
theorem chS_1 {c : Nat} (h3 : c < 1000) : chS a 1 (nI c) = (fmA a (upd a 1 (nI c)) 4, fmA a (upd a 1 (nI c))) := by
  unfold chS
  rw [if_neg (fun h => absurd h.1 (by decide)), if_pos ⟨rfl, zinb_nI h3 (by decide)⟩]
theorem chP_i (hg : zG a) (ha : asc a) {q : Nat} (hq : q < gN a 3) (hs : s < gN a 2) : chP a (a (41 + q)) (nI s) = (fmA a (upd a (81 + q) (nI s)) 4, fmA a (upd a (81 + q) (nI s))) := by
  have b2 := hg.2.2.1.2
  have b3 := hg.2.2.2.1.2
  obtain ⟨f1, f2⟩ := fnd_at hg ha hq
  unfold chP
  rw [if_neg f1, if_pos (Or.inr (zinb_nI hs (by omega))), f2, nI_clamp (by omega)]
theorem recN_ok {r : Int32} {n : Nat} (h : ¬ r < 0) : recN r n = pshN n := if_neg h
theorem recH_ok {r : Int32} {n : Nat} {H : Nat → Nat → Int32} (h : ¬ r < 0) : recH r n H a = pshH n H a := if_neg h
theorem psh_top {n : Nat} {H : Nat → Nat → Int32} (hn : n ≤ 6) : 0 < pshN n ∧ pshH n H a (pshN n - 1) = a := by
  unfold pshN pshH
  by_cases h : n < 6
  · rw [if_pos h, Nat.add_sub_cancel]
    simp only [h, ↓reduceIte]
    exact ⟨by omega, trivial⟩
  · rw [if_neg h]
    simp only [h, ↓reduceIte]
    exact ⟨by omega, trivial⟩
theorem fm4_ok {a0 a1 : Nat → Int32} (h1 : zG a1) : ¬ fmA a0 a1 4 < 0 := by
  have g := (fmA_ok (a0 := a0) h1).1.2.2.2.2.1
  rw [g.1]
  exact nI_pos (by omega)
end AS
end
