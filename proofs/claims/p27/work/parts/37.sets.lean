/-! small sets of servers as bits -/
section
set_option maxRecDepth 100000
def clr (S : Int32) : Int32 := S &&& (S - 1)
def lowG (S : Int32) : Nat → Nat → Int32
  | 0, i => nI i
  | j + 1, i => if (S >>> (nI i &&& 31)) &&& 1 = 0 then lowG S j (i + 1) else nI i
def lowI (S : Int32) : Int32 := if S = 0 then -6 else lowG S 12 0
def hasB (S : Int32) : Nat → Nat → Bool
  | 0, _ => false
  | j + 1, i => if (S >>> (nI i &&& 31)) &&& 1 = 0 then hasB S j (i + 1) else true
def bcF (x : Int32) : Int32 :=
  let sh := fun (s : Int32) (k : Int32) => (s.toUInt32 >>> (k.toUInt32 &&& Int32.toUInt32 31)).toInt32
  let a := x - (sh x 1 &&& 1431655765)
  let b := (a &&& 858993459) + (sh a 2 &&& 858993459)
  let c := (b + sh b 4) &&& 252645135
  let d := c + sh c 8
  let e := d + sh d 16
  e &&& 63
def okS (S : Int32) : Bool :=
  nthS S 0 == lowI S && nthS S 1 == lowI (clr S) && nthS S 2 == lowI (clr (clr S)) && clr (clr (clr S)) == 0 &&
  (S == 0 || hasB S 12 0) && (clr S == 0 || hasB (clr S) 12 0) && (clr (clr S) == 0 || hasB (clr (clr S)) 12 0) &&
  (lowI S == -6) == (S == 0) && (lowI (clr S) == -6) == (clr S == 0) && (lowI (clr (clr S)) == -6) == (clr (clr S) == 0) &&
  bcF S == (if S == 0 then 0 else if clr S == 0 then 1 else if clr (clr S) == 0 then 2 else 3)
theorem okS_0 : okS 0 = true := by decide +kernel
theorem okS_3 : ∀ p, p < 12 → ∀ q, q < 12 → ∀ r, r < 12 → okS (setI [p, q, r]) = true := by decide +kernel
end
