/-! A SMALL MACHINE of one's own: the class' code run over abstract cells. What it does is shown to be what the given machine does in the next part. -/
section
set_option maxRecDepth 100000
/-- a cell: an object (number, fields), a row of numbers (type, length, contents), a row of references -/
abbrev zC : Type := (Nat × List Value) ⊕ ((FieldType × Nat × (Nat → Int32)) ⊕ (Nat × (Nat → Option Nat)))
/-- the cells; how many places they took; the script: its length, its numbers -/
abbrev zX : Type := List zC × (Nat × (Nat × (Nat → Int32)))
abbrev zR : Type := Option ((Nat × List Value × List Value × zX) ⊕ ((Nat × List Value × Nat × List Value × List Value) ⊕ Option Value))
/-- an object's cell, a row's -/
abbrev zob (c : Nat) (fs : List Value) : zC := .inl (c, fs)
abbrev zar (ty : FieldType) (n : Nat) (f : Nat → Int32) : zC := .inr (.inl (ty, n, f))
abbrev zrr (n : Nat) (f : Nat → Option Nat) : zC := .inr (.inr (n, f))
/-- a local of which nothing is known -/
abbrev zU : Value := .retAddr 1
/-- the script, as a reference -/
abbrev zS : Value := .retAddr 0
abbrev zN (pc : Nat) (L st : List Value) (X : zX) : zR := some (.inl (pc, L, st, X))
def zopt {α : Type} (o : Option α) (f : α → Prop) : Prop := match o with
  | some v => f v
  | none => False
theorem zopt_some {α : Type} (v : α) (f : α → Prop) : zopt (some v) f = f v := rfl
theorem zopt_none {α : Type} (f : α → Prop) : zopt none f = False := rfl
def zgF (h : List zC) (a c k : Nat) : Option Value := match h[a]? with
  | some (.inl q) => if q.1 = c then q.2[k]? else none
  | _ => none
def zisO (h : List zC) (a c : Nat) : Bool := match h[a]? with
  | some (.inl q) => q.1 == c
  | _ => false
def zgA (h : List zC) (a : Nat) (ty : FieldType) : Option (Nat × (Nat → Int32)) := match h[a]? with
  | some (.inr (.inl q)) => if q.1 = ty then some q.2 else none
  | _ => none
def zgR (h : List zC) (a : Nat) : Option (Nat × (Nat → Option Nat)) := match h[a]? with
  | some (.inr (.inr q)) => some q
  | _ => none
def zpF (h : List zC) (a c k : Nat) (v : Value) : Option (List zC) := match h[a]? with
  | some (.inl q) => if q.1 = c ∧ k < q.2.length then some (h.set a (zob c (q.2.set k v))) else none
  | _ => none
def zinb (i : Int32) (n : Nat) : Bool := !(decide (i < 0) || decide (n ≤ i.toNatClampNeg))
theorem zinb_iff (i : Int32) (n : Nat) : zinb i n = true ↔ vp_in i n := by simp [zinb, vp_in]
/-- what may be put into a field of a type -/
def zfits : FieldType → Value → Bool
  | .int, .int _ => true
  | .char, .int x => decide (narrow .char (.int x) = .int x) && fits .char (.int x)
  | .object _, .ref _ => true
  | .array _, .ref _ => true
  | _, _ => false
def znl (L : List Value) (k : Nat) : Bool := match k with
  | 0 => true
  | j + 1 => match L[j]? with
    | some (.long _) => false
    | some (.double _) => false
    | _ => true
def zst8 (st : List Value) : Bool := decide ((st.map fun v => v.category).sum ≤ 8)
def zloc : List Value → List Value
  | [] => []
  | v :: t => if v.category = 2 then v :: zU :: zloc t else v :: zloc t
def zentry (n : Nat) (args : List Value) : List Value := zloc args ++ List.replicate (n - (zloc args).length) zU
def zroom (y y' : Nat) : Bool := decide (zfr y' + 1 ≤ zfr y) && decide (8 + (zmaxL y' + 11) + zlo y' ≤ zlo y)
def zspec (y : Nat) : Bool := decide (1 ≤ zfr y) && decide (26 ≤ zlo y)
def zldI (pc : Nat) (L st : List Value) (X : zX) (k : Nat) : zR := match L[k]? with
  | some (.int x) => zN pc L (.int x :: st) X
  | _ => none
def zldJ (pc : Nat) (L st : List Value) (X : zX) (k : Nat) : zR := match L[k]? with
  | some (.long x) => zN pc L (.long x :: st) X
  | _ => none
def zldA (pc : Nat) (L st : List Value) (X : zX) (k : Nat) : zR := match L[k]? with
  | some (.ref x) => zN pc L (.ref x :: st) X
  | some (.retAddr 0) => zN pc L (.retAddr 0 :: st) X
  | _ => none
def zstI (pc : Nat) (L st : List Value) (X : zX) (k : Nat) : zR := match st with
  | .int x :: t => if k < L.length ∧ znl L k = true then zN pc (L.set k (.int x)) t X else none
  | _ => none
def zstJ (pc : Nat) (L st : List Value) (X : zX) (k : Nat) : zR := match st with
  | .long x :: t => if k + 1 < L.length ∧ znl L k = true then zN pc ((L.set k (.long x)).set (k + 1) zU) t X else none
  | _ => none
def zstA (pc : Nat) (L st : List Value) (X : zX) (k : Nat) : zR := match st with
  | .ref x :: t => if k < L.length ∧ znl L k = true then zN pc (L.set k (.ref x)) t X else none
  | _ => none
def zb2 (pc : Nat) (L st : List Value) (X : zX) (f : Int32 → Int32 → Int32) : zR := match st with
  | .int y :: .int x :: t => zN pc L (.int (f x y) :: t) X
  | _ => none
def zb2z (pc : Nat) (L st : List Value) (X : zX) (f : Int32 → Int32 → Int32) : zR := match st with
  | .int y :: .int x :: t => if y = 0 then none else zN pc L (.int (f x y) :: t) X
  | _ => none
def zj2 (pc : Nat) (L st : List Value) (X : zX) (f : Int64 → Int64 → Int64) : zR := match st with
  | .long y :: .long x :: t => zN pc L (.long (f x y) :: t) X
  | _ => none
def zj2z (pc : Nat) (L st : List Value) (X : zX) (f : Int64 → Int64 → Int64) : zR := match st with
  | .long y :: .long x :: t => if y = 0 then none else zN pc L (.long (f x y) :: t) X
  | _ => none
def zji (pc : Nat) (L st : List Value) (X : zX) (f : Int64 → Int32 → Int64) : zR := match st with
  | .int y :: .long x :: t => zN pc L (.long (f x y) :: t) X
  | _ => none
def zi1 (pc : Nat) (L st : List Value) (X : zX) (f : Int32 → Value) : zR := match st with
  | .int x :: t => zN pc L (f x :: t) X
  | _ => none
def zl1 (pc : Nat) (L st : List Value) (X : zX) (f : Int64 → Value) : zR := match st with
  | .long x :: t => zN pc L (f x :: t) X
  | _ => none
def zbr (pc : Nat) (off : Int) (L st : List Value) (X : zX) (b : Bool) : zR :=
  if (pc : Int) + off = ((((pc : Int) + off).toNat : Nat) : Int) then (if b = true then zN ((pc : Int) + off).toNat L st X else zN (pc + 3) L st X) else none
def zjmp (pc : Nat) (off : Int) (L st : List Value) (X : zX) : zR := if (pc : Int) + off = ((((pc : Int) + off).toNat : Nat) : Int) then zN ((pc : Int) + off).toNat L st X else none
def zc0 (cd : ClassFile.Cond) (x : Int32) : Bool := match cd with
  | .eq => decide (x = 0) | .ne => decide (¬ x = 0) | .lt => decide (x < 0) | .ge => decide (0 ≤ x) | .gt => decide (0 < x) | .le => decide (x ≤ 0)
def zc2 (cd : ClassFile.Cond) (x y : Int32) : Bool := match cd with
  | .eq => decide (x = y) | .ne => decide (¬ x = y) | .lt => decide (x < y) | .ge => decide (y ≤ x) | .gt => decide (y < x) | .le => decide (x ≤ y)
def zald (pc : Nat) (L st : List Value) (X : zX) (ty : FieldType) : zR := match st with
  | .int i :: .ref a :: t => match zgA X.1 a ty with
    | some q => if zinb i q.1 = true then zN pc L (.int (q.2 i.toNatClampNeg) :: t) X else none
    | none => none
  | .int i :: .retAddr 0 :: t => if ty = .int ∧ zinb i X.2.2.1 = true then zN pc L (.int (X.2.2.2 i.toNatClampNeg) :: t) X else none
  | _ => none
def zast (pc : Nat) (L st : List Value) (X : zX) (ty : FieldType) : zR := match st with
  | .int x :: .int i :: .ref a :: t => match zgA X.1 a ty with
    | some q => if zinb i q.1 = true then zN pc L t (X.1.set a (zar ty q.1 (upd q.2 i.toNatClampNeg (vp_nar ty x))), X.2) else none
    | none => none
  | _ => none
def zaald (pc : Nat) (L st : List Value) (X : zX) : zR := match st with
  | .int i :: .ref a :: t => match zgR X.1 a with
    | some q => if zinb i q.1 = true then (match q.2 i.toNatClampNeg with
      | some r => zN pc L (.ref r :: t) X
      | none => none) else none
    | none => none
  | _ => none
def zaast (pc : Nat) (L st : List Value) (X : zX) : zR := match st with
  | .ref r :: .int i :: .ref a :: t => match zgR X.1 a with
    | some q => if zinb i q.1 = true ∧ zisO X.1 r 3 = true then zN pc L t (X.1.set a (zrr q.1 (va_up q.2 i.toNatClampNeg (some r))), X.2) else none
    | none => none
  | _ => none
def zalen (pc : Nat) (L st : List Value) (X : zX) : zR := match st with
  | .ref a :: t => match zgA X.1 a .int with
    | some q => zN pc L (.int (Int32.ofNat q.1) :: t) X
    | none => none
  | .retAddr 0 :: t => zN pc L (.int (Int32.ofNat X.2.2.1) :: t) X
  | _ => none
def zget (y pc : Nat) (L st : List Value) (X : zX) (i : Nat) : zR := match zfld (zown y) i with
  | some q => match st with
    | .ref a :: t => match zgF X.1 a q.1.1 q.1.2 with
      | some v => zN (pc + 3) L (v :: t) X
      | none => none
    | _ => none
  | none => none
def zput (y pc : Nat) (L st : List Value) (X : zX) (i : Nat) : zR := match zfld (zown y) i with
  | some q => match st with
    | v :: .ref a :: t => if zfits (ztt q.1.1 q.1.2) v = true ∧ ((zTT q.1.1 q.1.2).2.2.2 = false ∨ ((zname y).name = "<init>" ∧ (zTT q.1.1 q.1.2).1 = zOn (zown y))) then (match zpF X.1 a q.1.1 q.1.2 v with
      | some h => zN (pc + 3) L t (h, X.2)
      | none => none) else none
    | _ => none
  | none => none
def zdef : FieldType → Value
  | .int | .boolean | .char => .int 0
  | _ => .null
def znewo (y pc : Nat) (L st : List Value) (X : zX) (i : Nat) : zR := match znew (zown y) i with
  | some c => zN (pc + 3) L (.ref X.1.length :: st) (X.1 ++ [zob c ((List.range (zNF c)).map (fun k => defaultValue (ztt c k)))], (X.2.1 + zNF c, X.2.2))
  | none => none
def znewa (pc : Nat) (L st : List Value) (X : zX) (ty : FieldType) : zR := match st with
  | .int n :: t => if ¬ n < 0 ∧ n.toNatClampNeg ≤ 100000 then zN (pc + 2) L (.ref X.1.length :: t) (X.1 ++ [zar ty n.toNatClampNeg (fun _ => 0)], (X.2.1 + n.toNatClampNeg, X.2.2)) else none
  | _ => none
def znewr (y pc : Nat) (L st : List Value) (X : zX) (i : Nat) : zR := match st with
  | .int n :: t => if znew (zown y) i = some 3 ∧ ¬ n < 0 ∧ n.toNatClampNeg ≤ 100000 then zN (pc + 3) L (.ref X.1.length :: t) (X.1 ++ [zrr n.toNatClampNeg (fun _ => none)], (X.2.1 + n.toNatClampNeg, X.2.2)) else none
  | _ => none
def zcopy (y pc : Nat) (L st : List Value) (X : zX) : zR := match st with
  | .int n :: .int dp :: .ref a :: .int sp :: .ref a0 :: t => match X.1[a0]?, X.1[a]? with
    | some (.inr (.inl q0)), some (.inr (.inl q1)) => if zspec y = true ∧ zst8 t = true ∧ q0.1 = q1.1 ∧ (q1.1 = .int ∨ q1.1 = .boolean) ∧ ¬ sp < 0 ∧ ¬ dp < 0 ∧ ¬ n < 0 ∧ sp.toNatClampNeg + n.toNatClampNeg ≤ q0.2.1 ∧ dp.toNatClampNeg + n.toNatClampNeg ≤ q1.2.1 ∧ (∀ i, i < n.toNatClampNeg → fits q1.1 (.int (q0.2.2 (sp.toNatClampNeg + i))) = true)
      then zN (pc + 3) L t (X.1.set a (zar q1.1 q1.2.1 (va_cpy q0.2.2 q1.2.2 sp.toNatClampNeg dp.toNatClampNeg n.toNatClampNeg)), X.2) else none
    | _, _ => none
  | _ => none
def zinit (y pc : Nat) (L st : List Value) (X : zX) : zR := match st with
  | .ref _ :: t => if zspec y = true ∧ zst8 t = true then zN (pc + 3) L t X else none
  | _ => none
def zmax (y pc : Nat) (L st : List Value) (X : zX) : zR := match st with
  | .int b :: .int a :: t => if zspec y = true ∧ zst8 t = true then zN (pc + 3) L (.int (if a < b then b else a) :: t) X else none
  | _ => none
def zabs (y pc : Nat) (L st : List Value) (X : zX) : zR := match st with
  | .int a :: t => if zspec y = true ∧ zst8 t = true then zN (pc + 3) L (.int (if 0 ≤ a then a else 0 - a) :: t) X else none
  | _ => none
/-- a call: a static one takes its arguments alone; any other one a receiver below them -/
def zcallS (y pc : Nat) (L st : List Value) (y' : Nat) : zR :=
  if zroom y y' = true ∧ (st.take (zna y')).length = zna y' ∧ zst8 (st.drop (zna y')) = true ∧ (zloc (st.take (zna y')).reverse).length ≤ zmaxL y' then some (.inr (.inl (y', zentry (zmaxL y') (st.take (zna y')).reverse, pc + 3, L, st.drop (zna y')))) else none
def zcallV (y pc : Nat) (L st : List Value) (X : zX) (y' : Nat) : zR := match st.drop (zna y') with
  | .ref a :: t => if zroom y y' = true ∧ (st.take (zna y')).length = zna y' ∧ zst8 t = true ∧ zisO X.1 a (zown y') = true ∧ (zloc (.ref a :: (st.take (zna y')).reverse)).length ≤ zmaxL y' then some (.inr (.inl (y', zentry (zmaxL y') (.ref a :: (st.take (zna y')).reverse), pc + 3, L, t))) else none
  | _ => none
/-- which instruction a call of a kind is -/
def zinv (y pc : Nat) (L st : List Value) (X : zX) (i : Nat) (j : Nat) : zR := match zcal (zown y) i with
  | some (k, y') => match j with
    | 0 => if k = 0 then zcallV y pc L st X y' else none
    | 1 => if k = 1 then zcallS y pc L st y' else if k = 5 then zcopy y pc L st X else if k = 6 then zmax y pc L st X else if k = 7 then zabs y pc L st X else none
    | _ => if k = 2 ∨ k = 3 then zcallV y pc L st X y' else if k = 4 then zinit y pc L st X else none
  | none => none
def zretI (y : Nat) (st : List Value) : zR := match st with
  | [.int x] => match zret y with
    | some ty => if narrow ty (.int x) = .int x then some (.inr (.inr (some (.int x)))) else none
    | none => none
  | _ => none
def zretJ (y : Nat) (st : List Value) : zR := match st with
  | [.long x] => if zret y = some .long then some (.inr (.inr (some (.long x)))) else none
  | _ => none
def zretV (y : Nat) (st : List Value) : zR := match st with
  | [] => if zret y = none then some (.inr (.inr none)) else none
  | _ => none
def zdup (pc : Nat) (L st : List Value) (X : zX) : zR := match st with
  | v :: t => if v.category = 1 then zN pc L (v :: v :: t) X else none
  | _ => none
def zdup2 (pc : Nat) (L st : List Value) (X : zX) : zR := match st with
  | v :: w :: t => if v.category = 1 ∧ w.category = 1 then zN pc L (v :: w :: v :: w :: t) X else none
  | _ => none
def zpop (pc : Nat) (L st : List Value) (X : zX) : zR := match st with
  | v :: t => if v.category = 1 then zN pc L t X else none
  | _ => none
def zcmp (pc : Nat) (L st : List Value) (X : zX) : zR := match st with
  | .long y :: .long x :: t => zN pc L (.int (lg_cmp x y) :: t) X
  | _ => none
def ztab (pc : Nat) (L st : List Value) (X : zX) (dflt lo hi : Int) (offs : Array Int) : zR := match st with
  | .int x :: t => if x.toInt < lo ∨ hi < x.toInt then zjmp pc dflt L t X else (match offs[(x.toInt - lo).toNat]? with
    | some off => zjmp pc off L t X
    | none => none)
  | _ => none
def zlook (pc : Nat) (L st : List Value) (X : zX) (dflt : Int) (ps : Array (Int × Int)) : zR := match st with
  | .int x :: t => if (ps.toList.zip (ps.toList.drop 1)).all (fun (a, next) => a.1 < next.1) = true then zjmp pc (Op.lookupswitch.offset ps.toList dflt x.toInt) L t X else none
  | _ => none
def zinc (pc : Nat) (L st : List Value) (X : zX) (k : Nat) (n : Int) : zR := match L[k]? with
  | some (.int x) => if znl L k = true then zN pc (L.set k (.int (x + Int32.ofInt n))) st X else none
  | _ => none
def zcst (pc : Nat) (L st : List Value) (X : zX) (o : Option Int32) : zR := match o with
  | some v => zN pc L (.int v :: st) X
  | none => none
def zcst2 (pc : Nat) (L st : List Value) (X : zX) (o : Option Int64) : zR := match o with
  | some v => zN pc L (.long v :: st) X
  | none => none
/-- one instruction -/
def zins (y pc : Nat) (i : Instr) (len : Nat) (L st : List Value) (X : zX) : zR := match i with
  | .iconst n => if len = 1 then zN (pc + 1) L (.int (Int32.ofInt n) :: st) X else none
  | .bipush n => if len = 2 then zN (pc + 2) L (.int (Int8.ofInt n).toInt32 :: st) X else none
  | .sipush n => if len = 3 then zN (pc + 3) L (.int (Int16.ofInt n).toInt32 :: st) X else none
  | .lconst n => if len = 1 then zN (pc + 1) L (.long (Int64.ofNat (n : Nat)) :: st) X else none
  | .ldc k => if len = 2 then zcst (pc + 2) L st X (zldc (zown y) k) else none
  | .ldc_w k => if len = 3 then zcst (pc + 3) L st X (zldc (zown y) k) else none
  | .ldc2_w k => if len = 3 then zcst2 (pc + 3) L st X (zldc2 (zown y) k) else none
  | .iload k => if len = 2 then zldI (pc + 2) L st X k else none
  | .iload_n k => if len = 1 then zldI (pc + 1) L st X k else none
  | .lload k => if len = 2 then zldJ (pc + 2) L st X k else none
  | .lload_n k => if len = 1 then zldJ (pc + 1) L st X k else none
  | .aload k => if len = 2 then zldA (pc + 2) L st X k else none
  | .aload_n k => if len = 1 then zldA (pc + 1) L st X k else none
  | .istore k => if len = 2 then zstI (pc + 2) L st X k else none
  | .istore_n k => if len = 1 then zstI (pc + 1) L st X k else none
  | .lstore k => if len = 2 then zstJ (pc + 2) L st X k else none
  | .lstore_n k => if len = 1 then zstJ (pc + 1) L st X k else none
  | .astore_n k => if len = 1 then zstA (pc + 1) L st X k else none
  | .iinc k n => if len = 3 then zinc (pc + 3) L st X k n else none
  | .iadd => if len = 1 then zb2 (pc + 1) L st X (fun x y => x + y) else none
  | .isub => if len = 1 then zb2 (pc + 1) L st X (fun x y => x - y) else none
  | .imul => if len = 1 then zb2 (pc + 1) L st X (fun x y => x * y) else none
  | .iand => if len = 1 then zb2 (pc + 1) L st X (fun x y => x &&& y) else none
  | .ior => if len = 1 then zb2 (pc + 1) L st X (fun x y => x ||| y) else none
  | .ixor => if len = 1 then zb2 (pc + 1) L st X (fun x y => x ^^^ y) else none
  | .ishl => if len = 1 then zb2 (pc + 1) L st X (fun x y => x <<< (y &&& 31)) else none
  | .ishr => if len = 1 then zb2 (pc + 1) L st X (fun x y => x >>> (y &&& 31)) else none
  | .iushr => if len = 1 then zb2 (pc + 1) L st X (fun x y => (x.toUInt32 >>> (y.toUInt32 &&& Int32.toUInt32 31)).toInt32) else none
  | .idiv => if len = 1 then zb2z (pc + 1) L st X (fun x y => x / y) else none
  | .irem => if len = 1 then zb2z (pc + 1) L st X (fun x y => x - x / y * y) else none
  | .ineg => if len = 1 then zi1 (pc + 1) L st X (fun x => .int (-x)) else none
  | .i2l => if len = 1 then zi1 (pc + 1) L st X (fun x => .long x.toInt64) else none
  | .i2c => if len = 1 then zi1 (pc + 1) L st X (fun x => .int (x.toUInt32 % 65536).toInt32) else none
  | .l2i => if len = 1 then zl1 (pc + 1) L st X (fun x => .int x.toInt32) else none
  | .ladd => if len = 1 then zj2 (pc + 1) L st X (fun x y => x + y) else none
  | .lsub => if len = 1 then zj2 (pc + 1) L st X (fun x y => x - y) else none
  | .lmul => if len = 1 then zj2 (pc + 1) L st X (fun x y => x * y) else none
  | .land => if len = 1 then zj2 (pc + 1) L st X (fun x y => x &&& y) else none
  | .lor => if len = 1 then zj2 (pc + 1) L st X (fun x y => x ||| y) else none
  | .lrem => if len = 1 then zj2z (pc + 1) L st X (fun x y => x - x / y * y) else none
  | .lshl => if len = 1 then zji (pc + 1) L st X (fun x y => x <<< (y.toInt64 &&& 63)) else none
  | .lushr => if len = 1 then zji (pc + 1) L st X (fun x y => (x.toUInt64 >>> (y.toInt64.toUInt64 &&& Int64.toUInt64 63)).toInt64) else none
  | .lcmp => if len = 1 then zcmp (pc + 1) L st X else none
  | .dup => if len = 1 then zdup (pc + 1) L st X else none
  | .dup2 => if len = 1 then zdup2 (pc + 1) L st X else none
  | .pop => if len = 1 then zpop (pc + 1) L st X else none
  | .ifCond cd off => match st with
    | .int x :: t => if len = 3 then zbr pc off L t X (zc0 cd x) else none
    | _ => none
  | .if_icmp cd off => match st with
    | .int y :: .int x :: t => if len = 3 then zbr pc off L t X (zc2 cd x y) else none
    | _ => none
  | .goto off => if len = 3 then zjmp pc off L st X else none
  | .tableswitch dflt lo hi offs => ztab pc L st X dflt lo hi offs
  | .lookupswitch dflt ps => zlook pc L st X dflt ps
  | .getfield k => if len = 3 then zget y pc L st X k else none
  | .putfield k => if len = 3 then zput y pc L st X k else none
  | .iaload => if len = 1 then zald (pc + 1) L st X .int else none
  | .baload => if len = 1 then zald (pc + 1) L st X .boolean else none
  | .caload => if len = 1 then zald (pc + 1) L st X .char else none
  | .iastore => if len = 1 then zast (pc + 1) L st X .int else none
  | .bastore => if len = 1 then zast (pc + 1) L st X .boolean else none
  | .castore => if len = 1 then zast (pc + 1) L st X .char else none
  | .aaload => if len = 1 then zaald (pc + 1) L st X else none
  | .aastore => if len = 1 then zaast (pc + 1) L st X else none
  | .arraylength => if len = 1 then zalen (pc + 1) L st X else none
  | .new k => if len = 3 then znewo y pc L st X k else none
  | .newarray .int => if len = 2 then znewa pc L st X .int else none
  | .newarray .boolean => if len = 2 then znewa pc L st X .boolean else none
  | .newarray .char => if len = 2 then znewa pc L st X .char else none
  | .anewarray k => if len = 3 then znewr y pc L st X k else none
  | .invokevirtual k => if len = 3 then zinv y pc L st X k 0 else none
  | .invokestatic k => if len = 3 then zinv y pc L st X k 1 else none
  | .invokespecial k => if len = 3 then zinv y pc L st X k 2 else none
  | .ireturn => if len = 1 then zretI y st else none
  | .lreturn => if len = 1 then zretJ y st else none
  | .return_ => if len = 1 then zretV y st else none
  | _ => none
def zstep (y pc : Nat) (L st : List Value) (X : zX) : zR := match decode (zcode y) pc with
  | .ok q => zins y pc q.1 q.2 L st X
  | .error _ => none
def zpush (r : Option Value) (st : List Value) : List Value := match r with
  | some v => v :: st
  | none => st
def zrun : Nat → Nat → Nat → List Value → List Value → zX → Option (Option Value × zX)
  | 0, _, _, _, _, _ => none
  | n + 1, y, pc, L, st, X => match zstep y pc L st X with
    | none => none
    | some (.inl q) => zrun n y q.1 q.2.1 q.2.2.1 q.2.2.2
    | some (.inr (.inl q)) => match zrun n q.1 0 q.2.1 [] X with
      | none => none
      | some r => zrun n y q.2.2.1 q.2.2.2.1 (zpush r.1 q.2.2.2.2) r.2
    | some (.inr (.inr r)) => some (r, X)
theorem zrun_mono : ∀ (n y pc : Nat) (L st : List Value) (X : zX) (v : Option Value × zX), zrun n y pc L st X = some v → zrun (n + 1) y pc L st X = some v := by
  intro n
  induction n with
  | zero => intro y pc L st X v h; cases h
  | succ n ih =>
    intro y pc L st X v h
    rw [zrun] at h ⊢
    split at h
    next => cases h
    next q e => exact ih _ _ _ _ _ _ h
    next q e =>
      split at h
      next => cases h
      next r e2 =>
        rw [ih _ _ _ _ _ _ e2]
        exact ih _ _ _ _ _ _ h
    next r e => exact h
theorem zrun_le {n k y pc : Nat} {L st : List Value} {X : zX} {v : Option Value × zX} (h : zrun n y pc L st X = some v) (hk : n ≤ k) : zrun k y pc L st X = some v := by
  induction hk with
  | refl => exact h
  | step _ ih => exact zrun_mono _ _ _ _ _ _ _ ih
/-- the run from here ends, and what it answers and leaves holds Q -/
def Ev (y pc : Nat) (L st : List Value) (X : zX) (Q : Option Value → zX → Prop) : Prop := ∃ n r X', zrun n y pc L st X = some (r, X') ∧ Q r X'
theorem Ev_next {y pc : Nat} {L st : List Value} {X : zX} {pc' : Nat} {L' st' : List Value} {X' : zX} (h : zstep y pc L st X = zN pc' L' st' X') (Q : Option Value → zX → Prop) : Ev y pc L st X Q = Ev y pc' L' st' X' Q := by
  apply propext
  constructor
  · rintro ⟨n, r, X1, h1, h2⟩
    cases n with
    | zero => cases h1
    | succ n =>
      rw [zrun, h] at h1
      exact ⟨n, r, X1, h1, h2⟩
  · rintro ⟨n, r, X1, h1, h2⟩
    refine ⟨n + 1, r, X1, ?_, h2⟩
    rw [zrun, h]
    exact h1
theorem Ev_call {y pc : Nat} {L st : List Value} {X : zX} {y' : Nat} {Lc : List Value} {pc' : Nat} {L' st' : List Value} (h : zstep y pc L st X = some (.inr (.inl (y', Lc, pc', L', st')))) (Q : Option Value → zX → Prop) :
    Ev y pc L st X Q = Ev y' 0 Lc [] X (fun r X1 => Ev y pc' L' (zpush r st') X1 Q) := by
  apply propext
  constructor
  · rintro ⟨n, r, X1, h1, h2⟩
    cases n with
    | zero => cases h1
    | succ n =>
      rw [zrun, h] at h1
      dsimp only at h1
      split at h1
      next => cases h1
      next q e => exact ⟨n, q.1, q.2, e, n, r, X1, h1, h2⟩
  · rintro ⟨n, r, X1, h1, k, r2, X2, h2, h3⟩
    refine ⟨n + k + 1, r2, X2, ?_, h3⟩
    rw [zrun, h]
    dsimp only
    rw [zrun_le h1 (Nat.le_add_right n k)]
    exact zrun_le h2 (Nat.le_add_left k n)
theorem Ev_ret {y pc : Nat} {L st : List Value} {X : zX} {r : Option Value} (h : zstep y pc L st X = some (.inr (.inr r))) (Q : Option Value → zX → Prop) : Ev y pc L st X Q = Q r X := by
  apply propext
  constructor
  · rintro ⟨n, r2, X1, h1, h2⟩
    cases n with
    | zero => cases h1
    | succ n =>
      rw [zrun, h] at h1
      cases h1
      exact h2
  · intro h2
    exact ⟨1, r, X, by rw [zrun, h], h2⟩
theorem Ev_none {y pc : Nat} {L st : List Value} {X : zX} (h : zstep y pc L st X = none) (Q : Option Value → zX → Prop) : Ev y pc L st X Q = False := by
  apply propext
  constructor
  · rintro ⟨n, r, X1, h1, h2⟩
    cases n with
    | zero => cases h1
    | succ n =>
      rw [zrun, h] at h1
      cases h1
  · exact False.elim
/-- what holds of the end may be weakened -/
theorem Ev.mono {y pc : Nat} {L st : List Value} {X : zX} {Q Q' : Option Value → zX → Prop} (h : Ev y pc L st X Q) (hq : ∀ r X', Q r X' → Q' r X') : Ev y pc L st X Q' := by
  obtain ⟨n, r, X', h1, h2⟩ := h
  exact ⟨n, r, X', h1, hq r X' h2⟩
end
