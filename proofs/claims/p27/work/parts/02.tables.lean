section
set_option maxRecDepth 100000
/-! the tables' words, by their places; what the tables say of fields, calls, makings and constants -/
def zTb : List Cond := lw_tbl.filter goodWord
theorem zTb_in {i : Nat} {w : Cond} (h : lw_tbl[i]? = some w) (g : goodWord w = true) : w ∈ zTb := List.mem_filter.mpr ⟨List.mem_of_getElem? h, g⟩
theorem zTb_good : ∀ w ∈ zTb, w ∈ lw_tbl ∧ goodWord w = true := fun w h => List.mem_filter.mp h
def zFw (q : (Nat × Nat) × (Nat × Nat) × Nat) : Cond := .fieldLink (zOn q.1.1) q.1.2 (zTT q.2.1.1 q.2.1.2).1 (zTT q.2.1.1 q.2.1.2).2.1 (zTT q.2.1.1 q.2.1.2).2.2.1
def zFchk (q : (Nat × Nat) × (Nat × Nat) × Nat) : Bool := decide (lw_tbl[q.2.2]? = some (zFw q)) && decide (q.2.1.2 < zNF q.2.1.1) && decide (q.2.1.1 < 6)
theorem zFt_ok : ∀ q ∈ zFt, zFchk q = true := List.all_eq_true.mp (by decide +kernel)
def zfld (o i : Nat) : Option ((Nat × Nat) × Nat) := (zFt.find? (fun q => q.1.1 == o && q.1.2 == i)).map (fun q => q.2)
/-- a call's words -/
def zLk (o i : Nat) (k y : Nat) : Cond := if k = 3 then .methodLinkNest (zOn o) i (zname y) "StrawDraws" else .methodLink (zOn o) i (zname y)
def zCside (k y : Nat) : Cond := if k = 1 then .static (zname y) else .instanceMethod (zname y)
def zplain (s : String) : Bool := decide (s ≠ "java/lang/invoke/MethodHandle") && decide (s ≠ "java/lang/invoke/VarHandle")
theorem zy_0 : lw_tbl[103]? = some (.code (zname 0) (zcode 0) (zmaxL 0) (zret 0)) := by rfl
theorem zy_1 : lw_tbl[253]? = some (.code (zname 1) (zcode 1) (zmaxL 1) (zret 1)) := by rfl
theorem zy_2 : lw_tbl[333]? = some (.code (zname 2) (zcode 2) (zmaxL 2) (zret 2)) := by rfl
theorem zy_3 : lw_tbl[421]? = some (.code (zname 3) (zcode 3) (zmaxL 3) (zret 3)) := by rfl
theorem zy_4 : lw_tbl[163]? = some (.code (zname 4) (zcode 4) (zmaxL 4) (zret 4)) := by rfl
theorem zy_5 : lw_tbl[282]? = some (.code (zname 5) (zcode 5) (zmaxL 5) (zret 5)) := by rfl
theorem zy_6 : lw_tbl[314]? = some (.code (zname 6) (zcode 6) (zmaxL 6) (zret 6)) := by rfl
theorem zy_7 : lw_tbl[375]? = some (.code (zname 7) (zcode 7) (zmaxL 7) (zret 7)) := by rfl
theorem zy_8 : lw_tbl[318]? = some (.code (zname 8) (zcode 8) (zmaxL 8) (zret 8)) := by rfl
theorem zy_9 : lw_tbl[371]? = some (.code (zname 9) (zcode 9) (zmaxL 9) (zret 9)) := by rfl
theorem zy_10 : lw_tbl[220]? = some (.code (zname 10) (zcode 10) (zmaxL 10) (zret 10)) := by rfl
theorem zy_11 : lw_tbl[136]? = some (.code (zname 11) (zcode 11) (zmaxL 11) (zret 11)) := by rfl
theorem zy_12 : lw_tbl[37]? = some (.code (zname 12) (zcode 12) (zmaxL 12) (zret 12)) := by rfl
theorem zy_13 : lw_tbl[257]? = some (.code (zname 13) (zcode 13) (zmaxL 13) (zret 13)) := by rfl
theorem zy_14 : lw_tbl[367]? = some (.code (zname 14) (zcode 14) (zmaxL 14) (zret 14)) := by rfl
theorem zy_15 : lw_tbl[228]? = some (.code (zname 15) (zcode 15) (zmaxL 15) (zret 15)) := by rfl
theorem zy_16 : lw_tbl[224]? = some (.code (zname 16) (zcode 16) (zmaxL 16) (zret 16)) := by rfl
theorem zy_17 : lw_tbl[232]? = some (.code (zname 17) (zcode 17) (zmaxL 17) (zret 17)) := by rfl
theorem zy_18 : lw_tbl[379]? = some (.code (zname 18) (zcode 18) (zmaxL 18) (zret 18)) := by rfl
theorem zy_19 : lw_tbl[352]? = some (.code (zname 19) (zcode 19) (zmaxL 19) (zret 19)) := by rfl
theorem zy_20 : lw_tbl[356]? = some (.code (zname 20) (zcode 20) (zmaxL 20) (zret 20)) := by rfl
theorem zy_21 : lw_tbl[322]? = some (.code (zname 21) (zcode 21) (zmaxL 21) (zret 21)) := by rfl
theorem zy_22 : lw_tbl[325]? = some (.code (zname 22) (zcode 22) (zmaxL 22) (zret 22)) := by rfl
theorem zy_23 : lw_tbl[123]? = some (.code (zname 23) (zcode 23) (zmaxL 23) (zret 23)) := by rfl
theorem zy_24 : lw_tbl[289]? = some (.code (zname 24) (zcode 24) (zmaxL 24) (zret 24)) := by rfl
theorem zy_25 : lw_tbl[306]? = some (.code (zname 25) (zcode 25) (zmaxL 25) (zret 25)) := by rfl
theorem zy_26 : lw_tbl[310]? = some (.code (zname 26) (zcode 26) (zmaxL 26) (zret 26)) := by rfl
theorem zy_27 : lw_tbl[293]? = some (.code (zname 27) (zcode 27) (zmaxL 27) (zret 27)) := by rfl
theorem zy_28 : lw_tbl[296]? = some (.code (zname 28) (zcode 28) (zmaxL 28) (zret 28)) := by rfl
theorem zy_29 : lw_tbl[29]? = some (.code (zname 29) (zcode 29) (zmaxL 29) (zret 29)) := by rfl
theorem zy_30 : lw_tbl[425]? = some (.code (zname 30) (zcode 30) (zmaxL 30) (zret 30)) := by rfl
theorem zy_31 : lw_tbl[249]? = some (.code (zname 31) (zcode 31) (zmaxL 31) (zret 31)) := by rfl
theorem zy_32 : lw_tbl[398]? = some (.code (zname 32) (zcode 32) (zmaxL 32) (zret 32)) := by rfl
theorem zy_33 : lw_tbl[450]? = some (.code (zname 33) (zcode 33) (zmaxL 33) (zret 33)) := by rfl
theorem zy_34 : lw_tbl[409]? = some (.code (zname 34) (zcode 34) (zmaxL 34) (zret 34)) := by rfl
theorem zy_35 : lw_tbl[344]? = some (.code (zname 35) (zcode 35) (zmaxL 35) (zret 35)) := by rfl
theorem zy_36 : lw_tbl[437]? = some (.code (zname 36) (zcode 36) (zmaxL 36) (zret 36)) := by rfl
theorem zy_37 : lw_tbl[363]? = some (.code (zname 37) (zcode 37) (zmaxL 37) (zret 37)) := by rfl
theorem zy_38 : lw_tbl[445]? = some (.code (zname 38) (zcode 38) (zmaxL 38) (zret 38)) := by rfl
theorem zy_39 : lw_tbl[461]? = some (.code (zname 39) (zcode 39) (zmaxL 39) (zret 39)) := by rfl
theorem zy_40 : lw_tbl[340]? = some (.code (zname 40) (zcode 40) (zmaxL 40) (zret 40)) := by rfl
theorem zy_41 : lw_tbl[433]? = some (.code (zname 41) (zcode 41) (zmaxL 41) (zret 41)) := by rfl
theorem zy_42 : lw_tbl[216]? = some (.code (zname 42) (zcode 42) (zmaxL 42) (zret 42)) := by rfl
theorem zy_43 : lw_tbl[383]? = some (.code (zname 43) (zcode 43) (zmaxL 43) (zret 43)) := by rfl
theorem zy_44 : lw_tbl[466]? = some (.code (zname 44) (zcode 44) (zmaxL 44) (zret 44)) := by rfl
theorem zy_45 : lw_tbl[417]? = some (.code (zname 45) (zcode 45) (zmaxL 45) (zret 45)) := by rfl
theorem zy_46 : lw_tbl[429]? = some (.code (zname 46) (zcode 46) (zmaxL 46) (zret 46)) := by rfl
theorem zy_47 : lw_tbl[264]? = some (.code (zname 47) (zcode 47) (zmaxL 47) (zret 47)) := by rfl
theorem zy_48 : lw_tbl[402]? = some (.code (zname 48) (zcode 48) (zmaxL 48) (zret 48)) := by rfl
theorem zy_49 : lw_tbl[454]? = some (.code (zname 49) (zcode 49) (zmaxL 49) (zret 49)) := by rfl
theorem zy_50 : lw_tbl[413]? = some (.code (zname 50) (zcode 50) (zmaxL 50) (zret 50)) := by rfl
theorem zy_51 : lw_tbl[348]? = some (.code (zname 51) (zcode 51) (zmaxL 51) (zret 51)) := by rfl
theorem zy_52 : lw_tbl[441]? = some (.code (zname 52) (zcode 52) (zmaxL 52) (zret 52)) := by rfl
theorem zy_53 : lw_tbl[329]? = some (.code (zname 53) (zcode 53) (zmaxL 53) (zret 53)) := by rfl
theorem zy_54 : lw_tbl[387]? = some (.code (zname 54) (zcode 54) (zmaxL 54) (zret 54)) := by rfl
theorem zy_55 : lw_tbl[270]? = some (.code (zname 55) (zcode 55) (zmaxL 55) (zret 55)) := by rfl
theorem zy_56 : lw_tbl[267]? = some (.code (zname 56) (zcode 56) (zmaxL 56) (zret 56)) := by rfl
theorem zy_57 : lw_tbl[278]? = some (.code (zname 57) (zcode 57) (zmaxL 57) (zret 57)) := by rfl
theorem zy_58 : lw_tbl[274]? = some (.code (zname 58) (zcode 58) (zmaxL 58) (zret 58)) := by rfl
theorem zy_59 : lw_tbl[241]? = some (.code (zname 59) (zcode 59) (zmaxL 59) (zret 59)) := by rfl
theorem zy_60 : lw_tbl[236]? = some (.code (zname 60) (zcode 60) (zmaxL 60) (zret 60)) := by rfl
theorem zy_61 : lw_tbl[390]? = some (.code (zname 61) (zcode 61) (zmaxL 61) (zret 61)) := by rfl
theorem zy_62 : lw_tbl[285]? = some (.code (zname 62) (zcode 62) (zmaxL 62) (zret 62)) := by rfl
theorem zy_63 : lw_tbl[208]? = some (.code (zname 63) (zcode 63) (zmaxL 63) (zret 63)) := by rfl
theorem zy_64 : lw_tbl[244]? = some (.code (zname 64) (zcode 64) (zmaxL 64) (zret 64)) := by rfl
theorem zy_65 : lw_tbl[336]? = some (.code (zname 65) (zcode 65) (zmaxL 65) (zret 65)) := by rfl
theorem zy_66 : lw_tbl[359]? = some (.code (zname 66) (zcode 66) (zmaxL 66) (zret 66)) := by rfl
theorem zy_67 : lw_tbl[405]? = some (.code (zname 67) (zcode 67) (zmaxL 67) (zret 67)) := by rfl
theorem zy_68 : lw_tbl[212]? = some (.code (zname 68) (zcode 68) (zmaxL 68) (zret 68)) := by rfl
theorem zy_69 : lw_tbl[457]? = some (.code (zname 69) (zcode 69) (zmaxL 69) (zret 69)) := by rfl
def zYp : List Nat := [103, 253, 333, 421, 163, 282, 314, 375, 318, 371, 220, 136, 37, 257, 367, 228, 224, 232, 379, 352, 356, 322, 325, 123, 289, 306, 310, 293, 296, 29, 425, 249, 398, 450, 409, 344, 437, 363, 445, 461, 340, 433, 216, 383, 466, 417, 429, 264, 402, 454, 413, 348, 441, 329, 387, 270, 267, 278, 274, 241, 236, 390, 285, 208, 244, 336, 359, 405, 212, 457]
theorem zY_code : ∀ y, y < 70 → lw_tbl[zYp.getD y 0]? = some (.code (zname y) (zcode y) (zmaxL y) (zret y)) := fun y hy => match y, hy with
  | 0, _ => zy_0
  | 1, _ => zy_1
  | 2, _ => zy_2
  | 3, _ => zy_3
  | 4, _ => zy_4
  | 5, _ => zy_5
  | 6, _ => zy_6
  | 7, _ => zy_7
  | 8, _ => zy_8
  | 9, _ => zy_9
  | 10, _ => zy_10
  | 11, _ => zy_11
  | 12, _ => zy_12
  | 13, _ => zy_13
  | 14, _ => zy_14
  | 15, _ => zy_15
  | 16, _ => zy_16
  | 17, _ => zy_17
  | 18, _ => zy_18
  | 19, _ => zy_19
  | 20, _ => zy_20
  | 21, _ => zy_21
  | 22, _ => zy_22
  | 23, _ => zy_23
  | 24, _ => zy_24
  | 25, _ => zy_25
  | 26, _ => zy_26
  | 27, _ => zy_27
  | 28, _ => zy_28
  | 29, _ => zy_29
  | 30, _ => zy_30
  | 31, _ => zy_31
  | 32, _ => zy_32
  | 33, _ => zy_33
  | 34, _ => zy_34
  | 35, _ => zy_35
  | 36, _ => zy_36
  | 37, _ => zy_37
  | 38, _ => zy_38
  | 39, _ => zy_39
  | 40, _ => zy_40
  | 41, _ => zy_41
  | 42, _ => zy_42
  | 43, _ => zy_43
  | 44, _ => zy_44
  | 45, _ => zy_45
  | 46, _ => zy_46
  | 47, _ => zy_47
  | 48, _ => zy_48
  | 49, _ => zy_49
  | 50, _ => zy_50
  | 51, _ => zy_51
  | 52, _ => zy_52
  | 53, _ => zy_53
  | 54, _ => zy_54
  | 55, _ => zy_55
  | 56, _ => zy_56
  | 57, _ => zy_57
  | 58, _ => zy_58
  | 59, _ => zy_59
  | 60, _ => zy_60
  | 61, _ => zy_61
  | 62, _ => zy_62
  | 63, _ => zy_63
  | 64, _ => zy_64
  | 65, _ => zy_65
  | 66, _ => zy_66
  | 67, _ => zy_67
  | 68, _ => zy_68
  | 69, _ => zy_69
  | n + 70, h => absurd h (by omega)
/-- what holds of each method that is called -/
def zYchk (y p : Nat) : Bool := decide (y < 70) && zplain (zname y).cls && decide ((parseMethodDescriptor (zname y).desc).map (fun d => d.parameters.length) = some (zna y)) && plainName (zname y).cls && decide ((zname y).cls = zOn (zown y))
def zCchk (q : (Nat × Nat) × (Nat × Nat) × List Nat) : Bool :=
  match q.2.2 with
  | [p0, p1, p2, p3, p4] =>
    if q.2.1.1 = 4 then decide (lw_tbl[p0]? = some (.methodLink (zOn q.1.1) q.1.2 objectInit)) && decide (lw_tbl[p1]? = some (.instanceMethod objectInit)) && decide (lw_tbl[p4]? = some (.code objectInit ⟨#[0xb1]⟩ 1 none))
    else if q.2.1.1 = 5 then decide (lw_tbl[p0]? = some (.methodLink (zOn q.1.1) q.1.2 arraycopyName)) && decide (lw_tbl[p1]? = some (.static arraycopyName)) && decide (lw_tbl[p2]? = some (.native arraycopyName)) && decide (lw_tbl[p3]? = some (.initialized "java/lang/System"))
    else if q.2.1.1 = 6 then decide (lw_tbl[p0]? = some (.methodLink (zOn q.1.1) q.1.2 Lib.Math.max.name)) && decide (lw_tbl[p1]? = some (.static Lib.Math.max.name)) && decide (lw_tbl[p3]? = some (.initialized "java/lang/Math")) && decide (lw_tbl[p4]? = some (.code Lib.Math.max.name Lib.Math.max.code 2 (some .int)))
    else if q.2.1.1 = 7 then decide (lw_tbl[p0]? = some (.methodLink (zOn q.1.1) q.1.2 Lib.Math.abs.name)) && decide (lw_tbl[p1]? = some (.static Lib.Math.abs.name)) && decide (lw_tbl[p3]? = some (.initialized "java/lang/Math")) && decide (lw_tbl[p4]? = some (.code Lib.Math.abs.name Lib.Math.abs.code 1 (some .int)))
    else decide (q.2.1.1 < 4) && decide (lw_tbl[p0]? = some (zLk q.1.1 q.1.2 q.2.1.1 q.2.1.2)) && decide (lw_tbl[p1]? = some (zCside q.2.1.1 q.2.1.2)) && decide (lw_tbl[p3]? = some (.initialized (zname q.2.1.2).cls)) && zYchk q.2.1.2 p4
      && (if q.2.1.1 = 0 then decide (lw_tbl[p2]? = some (.selects (zname q.2.1.2).cls (zname q.2.1.2) (zname q.2.1.2))) && decide (zown q.2.1.2 < 6) && decide ((zname q.2.1.2).name ≠ "<init>") else true)
      && (if q.2.1.1 = 2 ∨ q.2.1.1 = 3 then decide ((zname q.2.1.2).name = "<init>") && decide (zret q.2.1.2 = none) else true)
  | _ => false
theorem zCt_ok : ∀ q ∈ zCt, zCchk q = true := List.all_eq_true.mp (by decide +kernel)
def zcal (o i : Nat) : Option (Nat × Nat) := (zCt.find? (fun q => q.1.1 == o && q.1.2 == i)).map (fun q => q.2.1)
def zNchk (q : (Nat × Nat) × Nat × List Nat) : Bool :=
  match q.2.2 with
  | [p0, p1, p2] => decide (lw_tbl[p0]? = some (.classLink (zOn q.1.1) q.1.2 (zOn q.2.1))) && decide (lw_tbl[p1]? = some (.instantiable (zOn q.2.1) (zNF q.2.1))) && decide (lw_tbl[p2]? = some (.initialized (zOn q.2.1))) && decide (q.2.1 < 6)
  | _ => false
theorem zNt_ok : ∀ q ∈ zNt, zNchk q = true := List.all_eq_true.mp (by decide +kernel)
def znew (o i : Nat) : Option Nat := (zNt.find? (fun q => q.1.1 == o && q.1.2 == i)).map (fun q => q.2.1)
theorem zKt_ok : ∀ q ∈ zKt, decide (lw_tbl[q.2.2]? = some (.constant (zOn q.1.1) q.1.2 q.2.1)) = true := List.all_eq_true.mp (by decide +kernel)
def zldc (o i : Nat) : Option Int32 := (zKt.find? (fun q => q.1.1 == o && q.1.2 == i)).map (fun q => q.2.1)
theorem zJt_ok : ∀ q ∈ zJt, decide (lw_tbl[q.2.2]? = some (.constantLong (zOn q.1.1) q.1.2 q.2.1)) = true := List.all_eq_true.mp (by decide +kernel)
def zldc2 (o i : Nat) : Option Int64 := (zJt.find? (fun q => q.1.1 == o && q.1.2 == i)).map (fun q => q.2.1)
/-- the words that do not lie on the tables for good: nest mates' links; rows of references -/
def zNst : List Cond := lw_tbl.filter (fun w => match w with | .methodLinkNest .. => true | _ => false)
theorem zcl_u : ∀ c, c < 6 → ∀ k, k < zNF c → u_lay (zOn c) (zTT c) k ∈ lw_tbl := by
  intro c hc
  have h0 : ∀ w ∈ u_ws RX0 TX0 3, w ∈ lw_tbl := by decide +kernel
  have h1 : ∀ w ∈ u_ws RX1 TX1 4, w ∈ lw_tbl := by decide +kernel
  have h2 : ∀ w ∈ u_ws RX2 TX2 6, w ∈ lw_tbl := by decide +kernel
  have h3 : ∀ w ∈ u_ws RX3 TX3 13, w ∈ lw_tbl := by decide +kernel
  have h4 : ∀ w ∈ u_ws RX4 TX4 2, w ∈ lw_tbl := by decide +kernel
  have h5 : ∀ w ∈ u_ws RX5 TX5 8, w ∈ lw_tbl := by decide +kernel
  intro k hk
  rcases (show c = 0 ∨ c = 1 ∨ c = 2 ∨ c = 3 ∨ c = 4 ∨ c = 5 by omega) with rfl | rfl | rfl | rfl | rfl | rfl
  · exact h0 _ (u_in_lay hk)
  · exact h1 _ (u_in_lay hk)
  · exact h2 _ (u_in_lay hk)
  · exact h3 _ (u_in_lay hk)
  · exact h4 _ (u_in_lay hk)
  · exact h5 _ (u_in_lay hk)
end
