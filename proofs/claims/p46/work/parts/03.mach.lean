/-! ===== THE LITTLE MACHINE: frames, instructions and calls as one computable function over named cells; that the JVM follows it is part 06 ===== -/
/-- the read-only cells (static tables, the script) have names from here on -/
def j_b : Nat := 1000000
/-- what a named cell is: an object of a class, or an array of a type with so many places -/
abbrev j_Sh : Type := Nat ⊕ (FieldType × Nat)
/-- a store: shapes, references, ints, longs (by cell and place), how many cells and slots were made -/
abbrev Sto : Type := (Nat → Option j_Sh) × (Nat → Nat → Option Nat) × (Nat → Nat → Int32) × (Nat → Nat → Int64) × Nat × Nat
abbrev Rr : Type := Option Value × Sto
abbrev s_sh (σ : Sto) : Nat → Option j_Sh := σ.1
abbrev s_P (σ : Sto) : Nat → Nat → Option Nat := σ.2.1
abbrev s_I (σ : Sto) : Nat → Nat → Int32 := σ.2.2.1
abbrev s_J (σ : Sto) : Nat → Nat → Int64 := σ.2.2.2.1
abbrev s_n (σ : Sto) : Nat := σ.2.2.2.2.1
abbrev s_l (σ : Sto) : Nat := σ.2.2.2.2.2
def u1 {α : Type} (f : Nat → α) (k : Nat) (v : α) : Nat → α := fun k' => if k' = k then v else f k'
def u2 {α : Type} (f : Nat → Nat → α) (r k : Nat) (v : α) : Nat → Nat → α := u1 f r (u1 (f r) k v)
abbrev s_uP (σ : Sto) (r k : Nat) (v : Option Nat) : Sto := (σ.1, u2 σ.2.1 r k v, σ.2.2)
abbrev s_uI (σ : Sto) (r k : Nat) (v : Int32) : Sto := (σ.1, σ.2.1, u2 σ.2.2.1 r k v, σ.2.2.2)
abbrev s_uJ (σ : Sto) (r k : Nat) (v : Int64) : Sto := (σ.1, σ.2.1, σ.2.2.1, u2 σ.2.2.2.1 r k v, σ.2.2.2.2)
/-- the row of ints of a cell anew -/
abbrev s_rI (σ : Sto) (r : Nat) (f : Nat → Int32) : Sto := (σ.1, σ.2.1, u1 σ.2.2.1 r f, σ.2.2.2)
/-- a new cell -/
abbrev s_al (σ : Sto) (h : j_Sh) (n : Nat) : Sto := (u1 σ.1 σ.2.2.2.2.1 (some h), u1 σ.2.1 σ.2.2.2.2.1 (fun _ => none), u1 σ.2.2.1 σ.2.2.2.2.1 (fun _ => 0), u1 σ.2.2.2.1 σ.2.2.2.2.1 (fun _ => 0), σ.2.2.2.2.1 + 1, σ.2.2.2.2.2 + n)
/-- new int[n][k]: the outer cell, then the rows -/
def s_mn (σ : Sto) (n k : Nat) : Sto := (fun r => if r < σ.2.2.2.2.1 then σ.1 r else if r = σ.2.2.2.2.1 then some (.inr (.array .int, n)) else if r < σ.2.2.2.2.1 + 1 + n then some (.inr (.int, k)) else σ.1 r, fun r i => if r = σ.2.2.2.2.1 then (if i < n then some (r + 1 + i) else none) else if σ.2.2.2.2.1 < r ∧ r < σ.2.2.2.2.1 + 1 + n then none else σ.2.1 r i, fun r i => if σ.2.2.2.2.1 ≤ r ∧ r < σ.2.2.2.2.1 + 1 + n then 0 else σ.2.2.1 r i, fun r i => if σ.2.2.2.2.1 ≤ r ∧ r < σ.2.2.2.2.1 + 1 + n then 0 else σ.2.2.2.1 r i, σ.2.2.2.2.1 + 1 + n, σ.2.2.2.2.2 + n + n * k)
/-- an index within -/
abbrev j_in (i : Int32) (n : Nat) : Prop := ¬ i < 0 ∧ i.toNatClampNeg < n
/-- a cell that is an object of the class ci -/
def j_oc (σ : Sto) (ci r : Nat) (K : Option Rr) : Option Rr := if σ.1 r = some (.inl ci) then K else none
/-- places of arrays: ints, bytes, booleans, longs, references -/
def j_ia (σ : Sto) (r : Nat) (i : Int32) (K : Option Rr) : Option Rr := match σ.1 r with
  | some (.inr (.int, n)) => if j_in i n then K else none
  | _ => none
def j_ba (σ : Sto) (r : Nat) (i : Int32) (K : Option Rr) : Option Rr := match σ.1 r with
  | some (.inr (.byte, n)) => if j_in i n then K else none
  | some (.inr (.boolean, n)) => if j_in i n then K else none
  | _ => none
def j_la (σ : Sto) (r : Nat) (i : Int32) (K : Option Rr) : Option Rr := match σ.1 r with
  | some (.inr (.long, n)) => if j_in i n then K else none
  | _ => none
def j_qa (σ : Sto) (r : Nat) (i : Int32) (K : Nat → Option Rr) : Option Rr := match σ.1 r with
  | some (.inr (.object C, n)) => if C = RX0 ∧ j_in i n then (match σ.2.1 r i.toNatClampNeg with | some q => K q | none => none) else none
  | some (.inr (.array .int, n)) => if j_in i n then (match σ.2.1 r i.toNatClampNeg with | some q => K q | none => none) else none
  | _ => none
def j_gP (σ : Sto) (ci r k : Nat) (K : Nat → Option Rr) : Option Rr := if σ.1 r = some (.inl ci) then (match σ.2.1 r k with | some q => K q | none => none) else none
def j_len (σ : Sto) (r : Nat) (K : Int32 → Option Rr) : Option Rr := match σ.1 r with
  | some (.inr (.int, n)) => K (Int32.ofNat n)
  | some (.inr (.object C, n)) => if C = RX0 then K (Int32.ofNat n) else none
  | some (.inr (.array .int, n)) => K (Int32.ofNat n)
  | _ => none
/-- a byte or a boolean that is stored in an array -/
def j_bs (σ : Sto) (r : Nat) (i v : Int32) (K : Sto → Option Rr) : Option Rr := match σ.1 r with
  | some (.inr (.byte, n)) => if r < j_b ∧ j_in i n then K (s_uI σ r i.toNatClampNeg v.toInt8.toInt32) else none
  | some (.inr (.boolean, n)) => if r < j_b ∧ j_in i n ∧ (v = 0 ∨ v = 1) then K (s_uI σ r i.toNatClampNeg v) else none
  | _ => none
def j_is (σ : Sto) (r : Nat) (i : Int32) (K : Option Rr) : Option Rr := match σ.1 r with
  | some (.inr (.int, n)) => if r < j_b ∧ j_in i n then K else none
  | _ => none
/-- an object put into an array of its class -/
def j_qs (σ : Sto) (r : Nat) (i : Int32) (v : Nat) (K : Option Rr) : Option Rr := match σ.1 r with
  | some (.inr (.object C, n)) => if r < j_b ∧ j_in i n ∧ v < j_b ∧ C = RX0 ∧ σ.1 v = some (.inl 0) then K else none
  | _ => none
/-- System.arraycopy of ints -/
def j_ac (σ : Sto) (r : Nat) (sp : Int32) (d : Nat) (dp n : Int32) (K : Sto → Option Rr) : Option Rr := match σ.1 r, σ.1 d with
  | some (.inr (.int, n0)), some (.inr (.int, n1)) => if r < j_b ∧ d < j_b ∧ ¬ sp < 0 ∧ ¬ dp < 0 ∧ ¬ n < 0 ∧ sp.toNatClampNeg + n.toNatClampNeg ≤ n0 ∧ dp.toNatClampNeg + n.toNatClampNeg ≤ n1 then K (s_rI σ d (va_cpy (σ.2.2.1 r) (σ.2.2.1 d) sp.toNatClampNeg dp.toNatClampNeg n.toNatClampNeg)) else none
  | _, _ => none
/-- a call: of a method that answers nothing, an int, a long -/
def j_c0 (call : Nat → List Value → Sto → Option Rr) (m : Nat) (as : List Value) (σ : Sto) (K : Sto → Option Rr) : Option Rr := match call m as σ with
  | some (none, τ) => K τ
  | _ => none
def j_c1 (call : Nat → List Value → Sto → Option Rr) (m : Nat) (as : List Value) (σ : Sto) (K : Int32 → Sto → Option Rr) : Option Rr := match call m as σ with
  | some (some (.int x), τ) => K x τ
  | _ => none
def j_c2 (call : Nat → List Value → Sto → Option Rr) (m : Nat) (as : List Value) (σ : Sto) (K : Int64 → Sto → Option Rr) : Option Rr := match call m as σ with
  | some (some (.long x), τ) => K x τ
  | _ => none
def j_cl (call : Nat → List Value → Sto → Option Rr) (m rt : Nat) (as : List Value) (σ : Sto) (st : List Value) (K : List Value → Sto → Option Rr) : Option Rr := match rt with
  | 0 => j_c0 call m as σ (fun τ => K st τ)
  | 1 => j_c1 call m as σ (fun x τ => K (.int x :: st) τ)
  | _ => j_c2 call m as σ (fun x τ => K (.long x :: st) τ)
/-- locals: a place a slot -/
abbrev j_L : Type := List (Option Value)
def j_ldI (L : j_L) (k : Nat) (K : Int32 → Option Rr) : Option Rr := match L[k]? with
  | some (some (.int x)) => K x
  | _ => none
def j_ldJ (L : j_L) (k : Nat) (K : Int64 → Option Rr) : Option Rr := match L[k]? with
  | some (some (.long x)) => K x
  | _ => none
def j_ldA (L : j_L) (k : Nat) (K : Nat → Option Rr) : Option Rr := match L[k]? with
  | some (some (.ref x)) => K x
  | _ => none
def j_kill (L : j_L) (k : Nat) : j_L := match k with
  | 0 => L
  | q + 1 => match L[q]? with
    | some (some v) => if v.category = 2 then L.set q none else L
    | _ => L
def j_killv (x : Option Value) : Option Value := match x with
  | some v => if v.category = 2 then none else some v
  | none => none
def j_st1 : j_L → Nat → Value → j_L
  | [], _, _ => []
  | _ :: r, 0, v => some v :: r
  | x :: r, 1, v => j_killv x :: j_st1 r 0 v
  | x :: r, k + 2, v => x :: j_st1 r (k + 1) v
def j_st2 : j_L → Nat → Value → j_L
  | [], _, _ => []
  | _ :: r, 0, v => some v :: (match r with
    | [] => []
    | _ :: r' => none :: r')
  | x :: r, 1, v => j_killv x :: j_st2 r 0 v
  | x :: r, k + 2, v => x :: j_st2 r (k + 1) v
def j_cut (w : Nat) (L : j_L) : j_L := L.take w ++ List.replicate (L.length - w) none
def j_ent0 : List Value → j_L
  | [] => []
  | v :: vs => if v.category = 2 then some v :: none :: j_ent0 vs else some v :: j_ent0 vs
def j_ent (n : Nat) (as : List Value) : j_L := j_ent0 as ++ List.replicate (n - (j_ent0 as).length) none
/-- a switch: its matches one by one -/
def j_sw (x : Int32) (d : Nat) (K : Nat → Option Rr) : List (Int32 × Nat) → Option Rr
  | [] => K d
  | (c, t) :: r => if x = c then K t else j_sw x d K r
/-- numbers that stand in the code, in the pool -/
def j_k (n : Int) : Int32 := Int32.ofInt n
def j_ci : Nat → Int32 := fun k => match k with
  | 0 => 1431655765
  | 1 => 858993459
  | 2 => 252645135
  | _ => 268435455
def j_cJ : Nat → Int64 := fun k => ([32, 17, 31, 31] : List Int64).getD k 0
/-- a table's matches, and where they go -/
def j_tps (lo : Int) : List Nat → List (Int32 × Nat)
  | [] => []
  | t :: ts => (j_k lo, t) :: j_tps (lo + 1) ts
def j_lps : List (Int × Int) → List Nat → List (Int32 × Nat)
  | (c, _) :: ps, t :: ts => (j_k c, t) :: j_lps ps ts
  | _, _ => []
def j_tst (c : ClassFile.Cond) (x y : Int32) (a b : Option Rr) : Option Rr := match c with
  | .eq => if x = y then a else b
  | .ne => if x = y then b else a
  | .lt => if x < y then a else b
  | .ge => if x < y then b else a
  | .gt => if y < x then a else b
  | .le => if y < x then b else a
/-- Math.abs, Math.min of ints -/
def j_abs (x : Int32) : Int32 := if 0 ≤ x then x else 0 - x
def j_min (x y : Int32) : Int32 := if y < x then y else x
/-- what an instruction does; K: what comes behind it. q: what the pool numbers of it mean (program 'gen') -/
def j_stp (call : Nat → List Value → Sto → Option Rr) (i : Instr) (q : List Nat) (pc : Nat) (L : j_L) (st : List Value) (σ : Sto) (K : Nat → j_L → List Value → Sto → Option Rr) : Option Rr :=
  match i with
  | .iconst n => K (pc + 1) L (.int (j_k n) :: st) σ
  | .bipush n => K (pc + 2) L (.int (j_k n) :: st) σ
  | .sipush n => K (pc + 3) L (.int (j_k n) :: st) σ
  | .lconst n => K (pc + 1) L (.long (Int64.ofNat (n : Nat)) :: st) σ
  | .ldc _ => match q with
    | [c, _] => K (pc + 2) L (.int (j_ci c) :: st) σ
    | _ => none
  | .ldc_w _ => match q with
    | [c, _] => K (pc + 3) L (.int (j_ci c) :: st) σ
    | _ => none
  | .ldc2_w _ => match q with
    | [c, _] => K (pc + 3) L (.long (j_cJ c) :: st) σ
    | _ => none
  | .iload k => j_ldI L k fun x => K (pc + 2) L (.int x :: st) σ
  | .iload_n k => j_ldI L k.val fun x => K (pc + 1) L (.int x :: st) σ
  | .lload k => j_ldJ L k fun x => K (pc + 2) L (.long x :: st) σ
  | .lload_n k => j_ldJ L k.val fun x => K (pc + 1) L (.long x :: st) σ
  | .aload k => j_ldA L k fun x => K (pc + 2) L (.ref x :: st) σ
  | .aload_n k => j_ldA L k.val fun x => K (pc + 1) L (.ref x :: st) σ
  | .istore k => match st with
    | .int x :: st => if k < L.length then K (pc + 2) (j_st1 L k (.int x)) st σ else none
    | _ => none
  | .istore_n k => match st with
    | .int x :: st => if k.val < L.length then K (pc + 1) (j_st1 L k.val (.int x)) st σ else none
    | _ => none
  | .lstore k => match st with
    | .long x :: st => if k + 1 < L.length then K (pc + 2) (j_st2 L k (.long x)) st σ else none
    | _ => none
  | .lstore_n k => match st with
    | .long x :: st => if k.val + 1 < L.length then K (pc + 1) (j_st2 L k.val (.long x)) st σ else none
    | _ => none
  | .astore k => match st with
    | .ref x :: st => if k < L.length then K (pc + 2) (j_st1 L k (.ref x)) st σ else none
    | _ => none
  | .astore_n k => match st with
    | .ref x :: st => if k.val < L.length then K (pc + 1) (j_st1 L k.val (.ref x)) st σ else none
    | _ => none
  | .iinc k c => j_ldI L k fun x => K (pc + 3) (j_st1 L k (.int (x + j_k c))) st σ
  | .iadd => match st with
    | .int y :: .int x :: st => K (pc + 1) L (.int (x + y) :: st) σ
    | _ => none
  | .isub => match st with
    | .int y :: .int x :: st => K (pc + 1) L (.int (x - y) :: st) σ
    | _ => none
  | .imul => match st with
    | .int y :: .int x :: st => K (pc + 1) L (.int (x * y) :: st) σ
    | _ => none
  | .iand => match st with
    | .int y :: .int x :: st => K (pc + 1) L (.int (x &&& y) :: st) σ
    | _ => none
  | .ior => match st with
    | .int y :: .int x :: st => K (pc + 1) L (.int (x ||| y) :: st) σ
    | _ => none
  | .ixor => match st with
    | .int y :: .int x :: st => K (pc + 1) L (.int (x ^^^ y) :: st) σ
    | _ => none
  | .idiv => match st with
    | .int y :: .int x :: st => if y = 0 then none else K (pc + 1) L (.int (x / y) :: st) σ
    | _ => none
  | .irem => match st with
    | .int y :: .int x :: st => if y = 0 then none else K (pc + 1) L (.int (x - x / y * y) :: st) σ
    | _ => none
  | .ineg => match st with
    | .int x :: st => K (pc + 1) L (.int (-x) :: st) σ
    | _ => none
  | .ishl => match st with
    | .int y :: .int x :: st => K (pc + 1) L (.int (x <<< (y &&& 31)) :: st) σ
    | _ => none
  | .ishr => match st with
    | .int y :: .int x :: st => K (pc + 1) L (.int (x >>> (y &&& 31)) :: st) σ
    | _ => none
  | .iushr => match st with
    | .int y :: .int x :: st => K (pc + 1) L (.int (x.toUInt32 >>> (y.toUInt32 &&& Int32.toUInt32 31)).toInt32 :: st) σ
    | _ => none
  | .i2l => match st with
    | .int x :: st => K (pc + 1) L (.long x.toInt64 :: st) σ
    | _ => none
  | .l2i => match st with
    | .long x :: st => K (pc + 1) L (.int x.toInt32 :: st) σ
    | _ => none
  | .i2b => match st with
    | .int x :: st => K (pc + 1) L (.int x.toInt8.toInt32 :: st) σ
    | _ => none
  | .ladd => match st with
    | .long y :: .long x :: st => K (pc + 1) L (.long (x + y) :: st) σ
    | _ => none
  | .lmul => match st with
    | .long y :: .long x :: st => K (pc + 1) L (.long (x * y) :: st) σ
    | _ => none
  | .ldiv => match st with
    | .long y :: .long x :: st => if y = 0 then none else K (pc + 1) L (.long (x / y) :: st) σ
    | _ => none
  | .lrem => match st with
    | .long y :: .long x :: st => if y = 0 then none else K (pc + 1) L (.long (x - x / y * y) :: st) σ
    | _ => none
  | .lcmp => match st with
    | .long y :: .long x :: st => K (pc + 1) L (.int (lg_cmp x y) :: st) σ
    | _ => none
  | .dup => match st with
    | .int x :: st => K (pc + 1) L (.int x :: .int x :: st) σ
    | .ref x :: st => K (pc + 1) L (.ref x :: .ref x :: st) σ
    | _ => none
  | .dup2 => match st with
    | .int y :: .ref x :: st => K (pc + 1) L (.int y :: .ref x :: .int y :: .ref x :: st) σ
    | _ => none
  | .pop => match st with
    | .int _ :: st => K (pc + 1) L st σ
    | _ => none
  | .ifCond c _ => match q, st with
    | [t], .int x :: st => j_tst c x 0 (K t L st σ) (K (pc + 3) L st σ)
    | _, _ => none
  | .if_icmp c _ => match q, st with
    | [t], .int y :: .int x :: st => j_tst c x y (K t L st σ) (K (pc + 3) L st σ)
    | _, _ => none
  | .goto _ => match q with
    | [t] => K t L st σ
    | _ => none
  | .tableswitch _ lo _ _ => match q, st with
    | d :: ts, .int x :: st => j_sw x d (fun t => K t L st σ) (j_tps lo ts)
    | _, _ => none
  | .lookupswitch _ ps => match q, st with
    | d :: ts, .int x :: st => j_sw x d (fun t => K t L st σ) (j_lps ps.toList ts)
    | _, _ => none
  | .getfield _ => match q, st with
    | [ci, k, kd, _], .ref r :: st => if kd = 1 then j_oc σ ci r (K (pc + 3) L (.long (σ.2.2.2.1 r k) :: st) σ) else if kd = 2 then j_gP σ ci r k (fun v => K (pc + 3) L (.ref v :: st) σ) else j_oc σ ci r (K (pc + 3) L (.int (σ.2.2.1 r k) :: st) σ)
    | _, _ => none
  | .putfield _ => match q, st with
    | [ci, k, kd, _], .int v :: .ref r :: st => if kd = 0 ∨ (kd = 3 ∧ (v = 0 ∨ v = 1)) then (if r < j_b then j_oc σ ci r (K (pc + 3) L st (s_uI σ r k v)) else none) else none
    | [ci, k, kd, _], .long v :: .ref r :: st => if kd = 1 then (if r < j_b then j_oc σ ci r (K (pc + 3) L st (s_uJ σ r k v)) else none) else none
    | [ci, k, kd, _], .ref v :: .ref r :: st => if kd = 2 then (if r < j_b then j_oc σ ci r (K (pc + 3) L st (s_uP σ r k (some v))) else none) else none
    | _, _ => none
  | .getstatic _ => match q with
    | [k, _] => K (pc + 3) L (.ref (j_b + k) :: st) σ
    | _ => none
  | .iaload => match st with
    | .int i :: .ref r :: st => j_ia σ r i (K (pc + 1) L (.int (σ.2.2.1 r i.toNatClampNeg) :: st) σ)
    | _ => none
  | .baload => match st with
    | .int i :: .ref r :: st => j_ba σ r i (K (pc + 1) L (.int (σ.2.2.1 r i.toNatClampNeg) :: st) σ)
    | _ => none
  | .laload => match st with
    | .int i :: .ref r :: st => j_la σ r i (K (pc + 1) L (.long (σ.2.2.2.1 r i.toNatClampNeg) :: st) σ)
    | _ => none
  | .aaload => match st with
    | .int i :: .ref r :: st => j_qa σ r i (fun v => K (pc + 1) L (.ref v :: st) σ)
    | _ => none
  | .iastore => match st with
    | .int v :: .int i :: .ref r :: st => j_is σ r i (K (pc + 1) L st (s_uI σ r i.toNatClampNeg v))
    | _ => none
  | .bastore => match st with
    | .int v :: .int i :: .ref r :: st => j_bs σ r i v (fun τ => K (pc + 1) L st τ)
    | _ => none
  | .lastore => match st with
    | .long v :: .int i :: .ref r :: st => if r < j_b then j_la σ r i (K (pc + 1) L st (s_uJ σ r i.toNatClampNeg v)) else none
    | _ => none
  | .aastore => match st with
    | .ref v :: .int i :: .ref r :: st => j_qs σ r i v (K (pc + 1) L st (s_uP σ r i.toNatClampNeg (some v)))
    | _ => none
  | .arraylength => match st with
    | .ref r :: st => j_len σ r (fun n => K (pc + 1) L (.int n :: st) σ)
    | _ => none
  | .new _ => match q with
    | [ci, n, _] => K (pc + 3) L (.ref σ.2.2.2.2.1 :: st) (s_al σ (.inl ci) n)
    | _ => none
  | .newarray ty => match st with
    | .int n :: st => if n < 0 ∨ 100000 < n.toNatClampNeg then none else K (pc + 2) L (.ref σ.2.2.2.2.1 :: st) (s_al σ (.inr (newarray.typeOf ty, n.toNatClampNeg)) n.toNatClampNeg)
    | _ => none
  | .anewarray _ => match st with
    | .int n :: st => if n < 0 ∨ 100000 < n.toNatClampNeg then none else K (pc + 3) L (.ref σ.2.2.2.2.1 :: st) (s_al σ (.inr (.object RX0, n.toNatClampNeg)) n.toNatClampNeg)
    | _ => none
  | .multianewarray _ _ => match st with
    | .int k :: .int n :: st => if n < 0 ∨ k < 0 ∨ 1000 < n.toNatClampNeg ∨ 1000 < k.toNatClampNeg then none else K (pc + 4) L (.ref σ.2.2.2.2.1 :: st) (s_mn σ n.toNatClampNeg k.toNatClampNeg)
    | _ => none
  | .invokevirtual _ => match q with
    | [m, na, rt, ci, _] => match st.drop na with
      | .ref r :: st' => if na ≤ st.length ∧ (st'.map fun v => v.category).sum ≤ 8 then j_oc σ ci r (j_cl call m rt (.ref r :: (st.take na).reverse) σ st' fun st τ => K (pc + 3) L st τ) else none
      | _ => none
    | _ => none
  | .invokestatic _ => match q with
    | [m, na, rt, _] => if na ≤ st.length ∧ ((st.drop na).map fun v => v.category).sum ≤ 8 then j_cl call m rt (st.take na).reverse σ (st.drop na) fun st τ => K (pc + 3) L st τ else none
    | [_] => match st with
      | .int n :: .int dp :: .ref d :: .int sp :: .ref r :: st => if (st.map fun v => v.category).sum ≤ 8 then j_ac σ r sp d dp n (fun τ => K (pc + 3) L st τ) else none
      | _ => none
    | [_, _] => match st with
      | .int x :: st => if (st.map fun v => v.category).sum ≤ 8 then K (pc + 3) L (.int (j_abs x) :: st) σ else none
      | _ => none
    | [_, _, _] => match st with
      | .int y :: .int x :: st => if (st.map fun v => v.category).sum ≤ 8 then K (pc + 3) L (.int (j_min x y) :: st) σ else none
      | _ => none
    | _ => none
  | .invokespecial _ => match q with
    | [m, na, rt, _] => match st.drop na with
      | .ref r :: st' => if na ≤ st.length ∧ (st'.map fun v => v.category).sum ≤ 8 then j_cl call m rt (.ref r :: (st.take na).reverse) σ st' fun st τ => K (pc + 3) L st τ else none
      | _ => none
    | [_] => match st with
      | .ref _ :: st => if (st.map fun v => v.category).sum ≤ 8 then K (pc + 3) L st σ else none
      | _ => none
    | _ => none
  | .return_ => match st with
    | [] => some (none, σ)
    | _ => none
  | .ireturn => match q, st with
    | [0], [.int v] => some (some (.int v), σ)
    | [_], [.int v] => if v = 0 ∨ v = 1 then some (some (.int v), σ) else none
    | _, _ => none
  | .lreturn => match st with
    | [.long v] => some (some (.long v), σ)
    | _ => none
  | _ => none
def j_look : List (Nat × Instr × List Nat) → Nat → Option (Instr × List Nat)
  | [], _ => none
  | (p, x) :: r, pc => cond (Nat.beq p pc) (some x) (j_look r pc)
def j_hd : List (Nat × Nat) → Nat → Option Nat
  | [], _ => none
  | (p, x) :: r, pc => cond (Nat.beq p pc) (some x) (j_hd r pc)
/-- a stretch up to a head (where 'again' goes on), a return -/
def j_seg (cd : List (Nat × Instr × List Nat)) (hd : List (Nat × Nat)) (call : Nat → List Value → Sto → Option Rr) (again : Nat → j_L → List Value → Sto → Option Rr) : Nat → Nat → j_L → List Value → Sto → Option Rr
  | 0, _, _, _, _ => none
  | n + 1, pc, L, st, σ => match j_look cd pc with
    | none => none
    | some (i, q) => j_stp call i q pc L st σ (fun pc' L' st' τ => match j_hd hd pc' with
      | some w => again pc' (j_cut w L') st' τ
      | none => j_seg cd hd call again n pc' L' st' τ)
def j_exec (cd : List (Nat × Instr × List Nat)) (hd : List (Nat × Nat)) (call : Nat → List Value → Sto → Option Rr) : Nat → Nat → j_L → List Value → Sto → Option Rr
  | 0, _, _, _, _ => none
  | n + 1, pc, L, st, σ => j_seg cd hd call (j_exec cd hd call n) 2000 pc L st σ
