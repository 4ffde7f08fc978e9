/-! the claim's methods over numbered cells: a heap is a list of shapes, ints by cell and place, longs by cell and place; a step is a function -/
abbrev kv_E : Type := Nat ⊕ ((Nat × List (Option Nat)) ⊕ (Nat × List (Option (Option Nat))))
abbrev kv_H : Type := List kv_E × (Nat → Nat → Int32) × (Nat → Nat → Int64)
abbrev kv_L : Type := List (Option Value)
abbrev kv_X : Type := Option Value ⊕ ((Nat × kv_L × List Value × kv_H) ⊕ (Nat × List Value × Nat × kv_L × List Value))
def kv_z {α : Type} (z : Nat → Nat → α) (a : Nat) (f : Nat → α) : Nat → Nat → α := fun b => if b = a then f else z b
def kv_go (pc : Nat) (ls : kv_L) (st : List Value) (h : kv_H) : Option kv_X := some (.inr (.inl (pc, ls, st, h)))
def kv_ln (len n : Nat) (k : Option kv_X) : Option kv_X := if len = n then k else none
def kv_tg (pc : Nat) (off : Int) (k : Nat → Option kv_X) : Option kv_X := if 0 ≤ (pc : Int) + off then k ((pc : Int) + off).toNat else none
def kv_c2 (o : Option Value) : Bool := match o with
  | some v => decide (v.category = 2)
  | none => false
def kv_lg (ls : kv_L) (i : Nat) : Bool := match i with
  | 0 => false
  | i + 1 => kv_c2 (ls.getD i none)
def kv_st (ls : kv_L) (i : Nat) (v : Value) (k : kv_L → Option kv_X) : Option kv_X := if i < ls.length ∧ kv_lg ls i = false then k (ls.set i (some v)) else none
def kv_st2 (ls : kv_L) (i : Nat) (x : Int64) (k : kv_L → Option kv_X) : Option kv_X := if i + 1 < ls.length ∧ kv_lg ls i = false then k ((ls.set i (some (.long x))).set (i + 1) none) else none
def kv_i (st : List Value) (f : Int32 → List Value → Option kv_X) : Option kv_X := match st with
  | .int x :: r => f x r
  | _ => none
def kv_ii (st : List Value) (f : Int32 → Int32 → List Value → Option kv_X) : Option kv_X := match st with
  | .int y :: .int x :: r => f x y r
  | _ => none
def kv_l (st : List Value) (f : Int64 → List Value → Option kv_X) : Option kv_X := match st with
  | .long x :: r => f x r
  | _ => none
def kv_ll (st : List Value) (f : Int64 → Int64 → List Value → Option kv_X) : Option kv_X := match st with
  | .long y :: .long x :: r => f x y r
  | _ => none
def kv_li (st : List Value) (f : Int64 → Int32 → List Value → Option kv_X) : Option kv_X := match st with
  | .int y :: .long x :: r => f x y r
  | _ => none
def kv_ri (st : List Value) (f : Nat → Int32 → List Value → Option kv_X) : Option kv_X := match st with
  | .int i :: .ref a :: r => f a i r
  | _ => none
def kv_r (st : List Value) (f : Nat → List Value → Option kv_X) : Option kv_X := match st with
  | .ref a :: r => f a r
  | _ => none
def kv_lk2 (t : List (Nat × Nat)) (c i : Nat) : Bool := (t.find? (fun q => q.1 == c && q.2 == i)).isSome
def kv_lk {α : Type} (t : List (Nat × Nat × α)) (c i : Nat) : Option α := (t.find? (fun q => q.1 == c && q.2.1 == i)).map (fun q => q.2.2)
def kv_SA : List (List Int32) := [[1, 1, 0, 1], [20, 60, 99, 9], [0, 1, 0, 0, 0, 0, 0, 0], [19, 9, 99, 99, 2, 9, 4, 2], [0, 0, 0], [99, 60, 9]]
def kv_SB : List (List Int32) := [[119, 98, 109, 114], [112, 119, 108, 104, 111, 120, 103, 109], [102, 110, 115], [115, 119, 104, 112, 97, 98, 100, 116]]
def kv_rT (t : FieldType) : Bool := match t with
  | .object _ => true
  | .array _ => true
  | _ => false
def kv_fl (c : Nat) : List (Option (Option Nat)) := (kv_Ts.getD c []).map (fun t => if kv_rT t then some none else none)
def kv_cat (r : List Value) : Nat := (r.map fun v => v.category).sum
def kv_lv : List Value → kv_L
  | [] => []
  | v :: vs => if v.category = 2 then some v :: none :: kv_lv vs else some v :: kv_lv vs
def kv_pad (as : List Value) (n : Nat) : kv_L := kv_lv as ++ List.replicate (n - (kv_lv as).length) none
def kv_is (sh : List kv_E) (b c : Nat) : Bool := if b < 300 then (match sh[b]? with
    | some (.inr (.inr q)) => q.1 == c
    | _ => false) else decide (306 ≤ b ∧ b < 310 ∧ c = 14)
def kv_gf (c idx pc : Nat) (ls : kv_L) (h : kv_H) (a : Nat) (r : List Value) : Option kv_X :=
  if a < 300 then
    match kv_lk kv_LF c idx with
    | some (ci, k, _) => (match h.1[a]? with
      | some (.inr (.inr (cj, fl))) => if cj = ci then (match fl[k]? with
        | some none => kv_go (pc + 3) ls ((if kv_Ty ci k = .long then Value.long (h.2.2 a k) else Value.int (h.2.1 a k)) :: r) h
        | some (some o) => kv_go (pc + 3) ls (va_rf o :: r) h
        | none => none) else none
      | _ => none)
    | none => none
  else if 306 ≤ a ∧ a < 310 then (match kv_lk kv_SF c idx with
    | some 0 => kv_go (pc + 3) ls (.ref (a + 4) :: r) h
    | some 1 => kv_go (pc + 3) ls (.int 0 :: r) h
    | _ => none) else none
def kv_pf (c : Nat) (nm : String) (idx pc : Nat) (ls : kv_L) (st : List Value) (h : kv_H) : Option kv_X := match st with
  | v :: .ref a :: r => if a < 300 then
    match kv_lk kv_LF c idx with
    | some (ci, k, ne) => (match h.1[a]? with
      | some (.inr (.inr (cj, fl))) => if cj = ci then (match fl[k]?, v with
        | some none, .int x => if narrow (kv_Ty ci k) (.int x) = .int x ∧ fits (kv_Ty ci k) (.int x) = true ∧ kv_Ty ci k ≠ .long ∧ (kv_T ci k).2.2.2 = false then kv_go (pc + 3) ls r (h.1, kv_z h.2.1 a (upd (h.2.1 a) k x), h.2.2) else none
        | some none, .long x => if kv_Ty ci k = .long ∧ (kv_T ci k).2.2.2 = false then kv_go (pc + 3) ls r (h.1, h.2.1, kv_z h.2.2 a (vp_updL (h.2.2 a) k x)) else none
        | some (some _), .ref b => if kv_rT (kv_Ty ci k) = true ∧ (kv_T ci k).2.2.2 = true ∧ (kv_T ci k).1 = kv_R c ∧ nm = "<init>" ∧ ne = 0 then kv_go (pc + 3) ls r (h.1.set a (.inr (.inr (ci, fl.set k (some (some b))))), h.2) else none
        | _, _ => none) else none
      | _ => none)
    | none => none else none
  | _ => none
def kv_ald (t : List (List Int32)) (lo : Nat) (pc : Nat) (ls : kv_L) (h : kv_H) (a : Nat) (i : Int32) (r : List Value) : Option kv_X :=
  match t[a - lo]? with
  | some l => if i < 0 ∨ l.length ≤ i.toNatClampNeg then none else kv_go (pc + 1) ls (.int (l.getD i.toNatClampNeg 0) :: r) h
  | none => none
def kv_call (j pc : Nat) (n : Nat) (sh : List kv_E) (ls : kv_L) (st : List Value) (dyn : Bool) : Option kv_X := match kv_Ms[j]? with
  | some q => if n ≤ st.length ∧ kv_cat (st.drop n) ≤ 8 ∧ (kv_lv (st.take n).reverse).length ≤ q.2.2.2.2.1 ∧ q.2.2.2.2.2.2.2 = !dyn ∧ (if dyn then n = q.2.2.2.2.2.2.1 + 1 else n = q.2.2.2.2.2.2.1) ∧ (dyn = true → (match (st.take n).reverse with
      | .ref b :: _ => kv_is sh b q.1
      | _ => false) = true) then some (.inr (.inr (j, (st.take n).reverse, pc + 3, ls, st.drop n))) else none
  | none => none
def kv_copy (pc : Nat) (ls : kv_L) (st : List Value) (h : kv_H) : Option kv_X := match st with
  | .int n :: .int dp :: .ref b :: .int sp :: .ref a :: r => if a < 300 ∧ b < 300 then (match h.1[a]?, h.1[b]? with
    | some (.inl na), some (.inl nb) => if (¬ sp < 0 ∧ ¬ dp < 0 ∧ ¬ n < 0) ∧ sp.toNatClampNeg + n.toNatClampNeg ≤ na ∧ dp.toNatClampNeg + n.toNatClampNeg ≤ nb ∧ kv_cat r ≤ 8 then
        kv_go (pc + 3) ls r (h.1, kv_z h.2.1 b (va_cpy (h.2.1 a) (h.2.1 b) sp.toNatClampNeg dp.toNatClampNeg n.toNatClampNeg), h.2.2) else none
    | _, _ => none) else none
  | _ => none
def kv_math (w pc : Nat) (ls : kv_L) (st : List Value) (h : kv_H) : Option kv_X := match w with
  | 0 => kv_ii st fun x y r => if kv_cat r ≤ 8 then kv_go (pc + 3) ls (.int (if x < y then y else x) :: r) h else none
  | 1 => kv_ii st fun x y r => if kv_cat r ≤ 8 then kv_go (pc + 3) ls (.int (if y < x then y else x) :: r) h else none
  | 2 => kv_i st fun x r => if kv_cat r ≤ 8 then kv_go (pc + 3) ls (.int (if 0 ≤ x then x else 0 - x) :: r) h else none
  | 3 => kv_ll st fun x y r => if kv_cat r ≤ 8 then kv_go (pc + 3) ls (.long (if y < x then x else y) :: r) h else none
  | 4 => kv_ll st fun x y r => if kv_cat r ≤ 8 then kv_go (pc + 3) ls (.long (if y < x then y else x) :: r) h else none
  | _ => none
def kv_sta (c idx pc : Nat) (ls : kv_L) (st : List Value) (h : kv_H) : Option kv_X :=
  if kv_lk2 kv_LK c idx = true then kv_copy pc ls st h else match kv_lk kv_LX c idx with
  | some w => kv_math w pc ls st h
  | none => (match kv_lk kv_LM c idx with
    | some (j, 0, _) => kv_call j pc (kv_Ms.getD j kv_dM).2.2.2.2.2.2.1 h.1 ls st false
    | _ => none)
def kv_spe (c idx pc : Nat) (ls : kv_L) (st : List Value) (h : kv_H) : Option kv_X :=
  if kv_lk2 kv_LO c idx = true then kv_r st (fun _ r => if kv_cat r ≤ 8 then kv_go (pc + 3) ls r h else none) else match kv_lk kv_LM c idx with
    | some (j, 2, _) => kv_call j pc ((kv_Ms.getD j kv_dM).2.2.2.2.2.2.1 + 1) h.1 ls st true
    | _ => none
def kv_vir (c idx pc : Nat) (ls : kv_L) (st : List Value) (h : kv_H) : Option kv_X := match kv_lk kv_LM c idx with
    | some (j, 1, _) => kv_call j pc ((kv_Ms.getD j kv_dM).2.2.2.2.2.2.1 + 1) h.1 ls st true
    | _ => none
def kv_ret (ty : Option FieldType) (st : List Value) : Option kv_X := match st, ty with
  | [.int v], some t => if narrow t (.int v) = .int v then some (.inl (some (.int v))) else none
  | _, _ => none
def kv_ars (pc : Nat) (ls : kv_L) (st : List Value) (h : kv_H) : Option kv_X := match st with
  | .ref v :: .int i :: .ref a :: r => if a < 300 ∧ v < 300 then (match h.1[a]?, h.1[v]? with
    | some (.inr (.inl (t, l))), some (.inr (.inr (ci, _))) => if ci = t ∧ ¬ (i < 0 ∨ l.length ≤ i.toNatClampNeg) then kv_go (pc + 1) ls r (h.1.set a (.inr (.inl (t, l.set i.toNatClampNeg (some v)))), h.2) else none
    | _, _ => none) else none
  | _ => none
def kv_len (pc : Nat) (ls : kv_L) (h : kv_H) (a : Nat) (r : List Value) : Option kv_X :=
  if a < 300 then (match h.1[a]? with
    | some (.inl n) => kv_go (pc + 1) ls (.int (Int32.ofNat n) :: r) h
    | some (.inr (.inl (_, l))) => kv_go (pc + 1) ls (.int (Int32.ofNat l.length) :: r) h
    | _ => none) else match (if a < 306 then kv_SA[a - 300]? else if 310 ≤ a then kv_SB[a - 310]? else none) with
    | some l => kv_go (pc + 1) ls (.int (Int32.ofNat l.length) :: r) h
    | none => none
def kv_ex (q : kv_M) (i : Instr) (len pc : Nat) (ls : kv_L) (st : List Value) (h : kv_H) : Option kv_X := match i with
  | .iconst n => kv_ln len 1 (kv_go (pc + 1) ls (.int (Int32.ofInt n) :: st) h)
  | .bipush n => kv_ln len 2 (kv_go (pc + 2) ls (.int (Int8.ofInt n).toInt32 :: st) h)
  | .sipush n => kv_ln len 3 (kv_go (pc + 3) ls (.int (Int16.ofInt n).toInt32 :: st) h)
  | .lconst n => kv_ln len 1 (kv_go (pc + 1) ls (.long (Int64.ofNat (n : Nat)) :: st) h)
  | .aconst_null => kv_ln len 1 (kv_go (pc + 1) ls (.null :: st) h)
  | .iload_n k => kv_ln len 1 (match ls[(k : Nat)]? with
    | some (some (.int x)) => kv_go (pc + 1) ls (.int x :: st) h
    | _ => none)
  | .iload k => kv_ln len 2 (match ls[k]? with
    | some (some (.int x)) => kv_go (pc + 2) ls (.int x :: st) h
    | _ => none)
  | .lload_n k => kv_ln len 1 (match ls[(k : Nat)]? with
    | some (some (.long x)) => kv_go (pc + 1) ls (.long x :: st) h
    | _ => none)
  | .aload_n k => kv_ln len 1 (match ls[(k : Nat)]? with
    | some (some (.ref x)) => kv_go (pc + 1) ls (.ref x :: st) h
    | some (some .null) => kv_go (pc + 1) ls (.null :: st) h
    | _ => none)
  | .aload k => kv_ln len 2 (match ls[k]? with
    | some (some (.ref x)) => kv_go (pc + 2) ls (.ref x :: st) h
    | some (some .null) => kv_go (pc + 2) ls (.null :: st) h
    | _ => none)
  | .istore_n k => kv_ln len 1 (kv_i st fun x r => kv_st ls (k : Nat) (.int x) fun ls => kv_go (pc + 1) ls r h)
  | .istore k => kv_ln len 2 (kv_i st fun x r => kv_st ls k (.int x) fun ls => kv_go (pc + 2) ls r h)
  | .lstore_n k => kv_ln len 1 (kv_l st fun x r => kv_st2 ls (k : Nat) x fun ls => kv_go (pc + 1) ls r h)
  | .astore_n k => kv_ln len 1 (match st with
    | .ref x :: r => kv_st ls (k : Nat) (.ref x) fun ls => kv_go (pc + 1) ls r h
    | .null :: r => kv_st ls (k : Nat) .null fun ls => kv_go (pc + 1) ls r h
    | _ => none)
  | .astore k => kv_ln len 2 (match st with
    | .ref x :: r => kv_st ls k (.ref x) fun ls => kv_go (pc + 2) ls r h
    | .null :: r => kv_st ls k .null fun ls => kv_go (pc + 2) ls r h
    | _ => none)
  | .iinc k n => kv_ln len 3 (match ls[k]? with
    | some (some (.int x)) => kv_st ls k (.int (x + Int32.ofInt n)) fun ls => kv_go (pc + 3) ls st h
    | _ => none)
  | .iadd => kv_ln len 1 (kv_ii st fun x y r => kv_go (pc + 1) ls (.int (x + y) :: r) h)
  | .isub => kv_ln len 1 (kv_ii st fun x y r => kv_go (pc + 1) ls (.int (x - y) :: r) h)
  | .imul => kv_ln len 1 (kv_ii st fun x y r => kv_go (pc + 1) ls (.int (x * y) :: r) h)
  | .iand => kv_ln len 1 (kv_ii st fun x y r => kv_go (pc + 1) ls (.int (x &&& y) :: r) h)
  | .ior => kv_ln len 1 (kv_ii st fun x y r => kv_go (pc + 1) ls (.int (x ||| y) :: r) h)
  | .ixor => kv_ln len 1 (kv_ii st fun x y r => kv_go (pc + 1) ls (.int (x ^^^ y) :: r) h)
  | .idiv => kv_ln len 1 (kv_ii st fun x y r => if y = 0 then none else kv_go (pc + 1) ls (.int (x / y) :: r) h)
  | .irem => kv_ln len 1 (kv_ii st fun x y r => if y = 0 then none else kv_go (pc + 1) ls (.int (x - x / y * y) :: r) h)
  | .ineg => kv_ln len 1 (kv_i st fun x r => kv_go (pc + 1) ls (.int (-x) :: r) h)
  | .ishl => kv_ln len 1 (kv_ii st fun x y r => kv_go (pc + 1) ls (.int (x <<< (y &&& 31)) :: r) h)
  | .ishr => kv_ln len 1 (kv_ii st fun x y r => kv_go (pc + 1) ls (.int (x >>> (y &&& 31)) :: r) h)
  | .iushr => kv_ln len 1 (kv_ii st fun x y r => kv_go (pc + 1) ls (.int (x.toUInt32 >>> (y.toUInt32 &&& Int32.toUInt32 31)).toInt32 :: r) h)
  | .ladd => kv_ln len 1 (kv_ll st fun x y r => kv_go (pc + 1) ls (.long (x + y) :: r) h)
  | .lsub => kv_ln len 1 (kv_ll st fun x y r => kv_go (pc + 1) ls (.long (x - y) :: r) h)
  | .lmul => kv_ln len 1 (kv_ll st fun x y r => kv_go (pc + 1) ls (.long (x * y) :: r) h)
  | .ldiv => kv_ln len 1 (kv_ll st fun x y r => if y = 0 then none else kv_go (pc + 1) ls (.long (x / y) :: r) h)
  | .lrem => kv_ln len 1 (kv_ll st fun x y r => if y = 0 then none else kv_go (pc + 1) ls (.long (x - x / y * y) :: r) h)
  | .lcmp => kv_ln len 1 (kv_ll st fun x y r => kv_go (pc + 1) ls (.int (lg_cmp x y) :: r) h)
  | .lushr => kv_ln len 1 (kv_li st fun x y r => kv_go (pc + 1) ls (.long (x.toUInt64 >>> (y.toInt64.toUInt64 &&& Int64.toUInt64 63)).toInt64 :: r) h)
  | .i2l => kv_ln len 1 (kv_i st fun x r => kv_go (pc + 1) ls (.long x.toInt64 :: r) h)
  | .l2i => kv_ln len 1 (kv_l st fun x r => kv_go (pc + 1) ls (.int x.toInt32 :: r) h)
  | .i2b => kv_ln len 1 (kv_i st fun x r => kv_go (pc + 1) ls (.int x.toInt8.toInt32 :: r) h)
  | .i2c => kv_ln len 1 (kv_i st fun x r => kv_go (pc + 1) ls (.int (x.toUInt32 % 65536).toInt32 :: r) h)
  | .ifCond .eq off => kv_ln len 3 (kv_i st fun x r => kv_tg pc off fun t => if x = 0 then kv_go t ls r h else kv_go (pc + 3) ls r h)
  | .ifCond .ne off => kv_ln len 3 (kv_i st fun x r => kv_tg pc off fun t => if ¬ x = 0 then kv_go t ls r h else kv_go (pc + 3) ls r h)
  | .ifCond .lt off => kv_ln len 3 (kv_i st fun x r => kv_tg pc off fun t => if x < 0 then kv_go t ls r h else kv_go (pc + 3) ls r h)
  | .ifCond .ge off => kv_ln len 3 (kv_i st fun x r => kv_tg pc off fun t => if 0 ≤ x then kv_go t ls r h else kv_go (pc + 3) ls r h)
  | .ifCond .gt off => kv_ln len 3 (kv_i st fun x r => kv_tg pc off fun t => if 0 < x then kv_go t ls r h else kv_go (pc + 3) ls r h)
  | .ifCond .le off => kv_ln len 3 (kv_i st fun x r => kv_tg pc off fun t => if x ≤ 0 then kv_go t ls r h else kv_go (pc + 3) ls r h)
  | .if_icmp .eq off => kv_ln len 3 (kv_ii st fun x y r => kv_tg pc off fun t => if x = y then kv_go t ls r h else kv_go (pc + 3) ls r h)
  | .if_icmp .ne off => kv_ln len 3 (kv_ii st fun x y r => kv_tg pc off fun t => if ¬ x = y then kv_go t ls r h else kv_go (pc + 3) ls r h)
  | .if_icmp .lt off => kv_ln len 3 (kv_ii st fun x y r => kv_tg pc off fun t => if x < y then kv_go t ls r h else kv_go (pc + 3) ls r h)
  | .if_icmp .ge off => kv_ln len 3 (kv_ii st fun x y r => kv_tg pc off fun t => if y ≤ x then kv_go t ls r h else kv_go (pc + 3) ls r h)
  | .if_icmp .gt off => kv_ln len 3 (kv_ii st fun x y r => kv_tg pc off fun t => if y < x then kv_go t ls r h else kv_go (pc + 3) ls r h)
  | .if_icmp .le off => kv_ln len 3 (kv_ii st fun x y r => kv_tg pc off fun t => if x ≤ y then kv_go t ls r h else kv_go (pc + 3) ls r h)
  | .goto off => kv_ln len 3 (kv_tg pc off fun t => kv_go t ls st h)
  | .ifnonnull off => kv_ln len 3 (match st with
    | .ref _ :: r => kv_tg pc off fun t => kv_go t ls r h
    | .null :: r => kv_go (pc + 3) ls r h
    | _ => none)
  | .dup => kv_ln len 1 (match st with
    | v :: r => if v.category = 1 then kv_go (pc + 1) ls (v :: v :: r) h else none
    | _ => none)
  | .dup2 => kv_ln len 1 (match st with
    | v :: w :: r => if v.category = 1 ∧ w.category = 1 then kv_go (pc + 1) ls (v :: w :: v :: w :: r) h else none
    | _ => none)
  | .pop => kv_ln len 1 (match st with
    | v :: r => if v.category = 1 then kv_go (pc + 1) ls r h else none
    | _ => none)
  | .ldc k => kv_ln len 2 (match kv_lk kv_LC q.1 k with
    | some v => kv_go (pc + 2) ls (.int v :: st) h
    | none => (match kv_lk kv_LS q.1 k with
      | some v => if v < 4 then kv_go (pc + 2) ls (.ref (306 + v) :: st) h else none
      | none => none))
  | .ldc_w k => kv_ln len 3 (match kv_lk kv_LC q.1 k with
    | some v => kv_go (pc + 3) ls (.int v :: st) h
    | none => none)
  | .ldc2_w k => kv_ln len 3 (match kv_lk kv_LL q.1 k with
    | some v => kv_go (pc + 3) ls (.long v :: st) h
    | none => none)
  | .tableswitch dflt lo hi offs => kv_i st fun x r => if x.toInt < lo ∨ hi < x.toInt then kv_tg pc dflt fun t => kv_go t ls r h else (match offs[(x.toInt - lo).toNat]? with
    | some off => kv_tg pc off fun t => kv_go t ls r h
    | none => none)
  | .lookupswitch dflt ps => if (ps.toList.zip (ps.toList.drop 1)).all (fun (a, next) => a.1 < next.1) = true then kv_i st fun x r => kv_tg pc (Op.lookupswitch.offset ps.toList dflt x.toInt) fun t => kv_go t ls r h else none
  | .getstatic k => kv_ln len 3 (match kv_lk kv_GS q.1 k with
    | some 6 => kv_go (pc + 3) ls (.int 1 :: st) h
    | some w => if w < 6 then kv_go (pc + 3) ls (.ref (300 + w) :: st) h else none
    | none => none)
  | .getfield k => kv_ln len 3 (kv_r st fun a r => kv_gf q.1 k pc ls h a r)
  | .putfield k => kv_ln len 3 (kv_pf q.1 q.2.1 k pc ls st h)
  | .iaload => kv_ln len 1 (kv_ri st fun a i r => if a < 300 then (match h.1[a]? with
      | some (.inl n) => if i < 0 ∨ n ≤ i.toNatClampNeg then none else kv_go (pc + 1) ls (.int (h.2.1 a i.toNatClampNeg) :: r) h
      | _ => none) else if a < 306 then kv_ald kv_SA 300 pc ls h a i r else none)
  | .baload => kv_ln len 1 (kv_ri st fun a i r => if 310 ≤ a then kv_ald kv_SB 310 pc ls h a i r else none)
  | .iastore => kv_ln len 1 (match st with
    | .int v :: .int i :: .ref a :: r => if a < 300 then (match h.1[a]? with
      | some (.inl n) => if i < 0 ∨ n ≤ i.toNatClampNeg then none else kv_go (pc + 1) ls r (h.1, kv_z h.2.1 a (upd (h.2.1 a) i.toNatClampNeg v), h.2.2)
      | _ => none) else none
    | _ => none)
  | .aaload => kv_ln len 1 (kv_ri st fun a i r => if a < 300 then (match h.1[a]? with
      | some (.inr (.inl (_, l))) => if i < 0 ∨ l.length ≤ i.toNatClampNeg then none else kv_go (pc + 1) ls (va_rf (l.getD i.toNatClampNeg none) :: r) h
      | _ => none) else none)
  | .aastore => kv_ln len 1 (kv_ars pc ls st h)
  | .arraylength => kv_ln len 1 (kv_r st fun a r => kv_len pc ls h a r)
  | .newarray .int => kv_ln len 2 (kv_i st fun n r => if n < 0 ∨ 100000 < n.toNatClampNeg ∨ 290 < h.1.length then none else kv_go (pc + 2) ls (.ref h.1.length :: r) (h.1 ++ [.inl n.toNatClampNeg], h.2))
  | .anewarray k => kv_ln len 3 (match kv_lk kv_AN q.1 k with
    | some ci => kv_i st fun n r => if n < 0 ∨ 100000 < n.toNatClampNeg ∨ 290 < h.1.length ∨ ¬ (ci = 9 ∨ ci = 5) then none else kv_go (pc + 3) ls (.ref h.1.length :: r) (h.1 ++ [.inr (.inl (ci, List.replicate n.toNatClampNeg none))], h.2)
    | none => none)
  | .new k => kv_ln len 3 (match kv_lk kv_NC q.1 k with
    | some ci => if 290 < h.1.length ∨ 13 ≤ ci then none else kv_go (pc + 3) ls (.ref h.1.length :: st) (h.1 ++ [.inr (.inr (ci, kv_fl ci))], h.2)
    | none => none)
  | .invokestatic k => kv_ln len 3 (kv_sta q.1 k pc ls st h)
  | .invokespecial k => kv_ln len 3 (kv_spe q.1 k pc ls st h)
  | .invokevirtual k => kv_ln len 3 (kv_vir q.1 k pc ls st h)
  | .ireturn => kv_ln len 1 (kv_ret q.2.2.2.2.2.1 st)
  | .areturn => kv_ln len 1 (match st, q.2.2.2.2.2.1 with
    | [.ref a], some t => if kv_rT t = true then some (.inl (some (.ref a))) else none
    | [.null], some t => if kv_rT t = true then some (.inl (some .null)) else none
    | _, _ => none)
  | .return_ => kv_ln len 1 (match st, q.2.2.2.2.2.1 with
    | [], none => some (.inl none)
    | _, _ => none)
  | _ => none
def kv_nx (j pc : Nat) (ls : kv_L) (st : List Value) (h : kv_H) : Option kv_X := match kv_Ms[j]? with
  | none => none
  | some q => (match decode q.2.2.2.1 pc with
    | .ok (i, len) => kv_ex q i len pc ls st h
    | .error _ => none)
def kv_en (j : Nat) (as : List Value) : kv_L := kv_pad as (kv_Ms.getD j kv_dM).2.2.2.2.1
def kv_ev : Nat → Nat → Nat → Nat → kv_L → List Value → kv_H → Option (Option Value × kv_H)
  | 0, _, _, _, _, _, _ => none
  | f + 1, d, j, pc, ls, st, h => match kv_nx j pc ls st h with
    | none => none
    | some (.inl v) => some (v, h)
    | some (.inr (.inl (pc', ls', st', h'))) => kv_ev f d j pc' ls' st' h'
    | some (.inr (.inr (j', as, pc', ls', rest))) => (match d with
      | 0 => none
      | d + 1 => (match kv_ev f d j' 0 (kv_en j' as) [] h with
        | none => none
        | some (v, h') => kv_ev f (d + 1) j pc' ls' (v.toList ++ rest) h'))
theorem kv_ev_mono : ∀ (f d j pc : Nat) (ls : kv_L) (st : List Value) (h : kv_H) (o : Option Value × kv_H), kv_ev f d j pc ls st h = some o → ∀ g, f ≤ g → kv_ev g d j pc ls st h = some o := by
  intro f
  induction f with
  | zero => intro d j pc ls st h o e; cases e
  | succ f ih =>
    intro d j pc ls st h o e g hg
    obtain ⟨g, rfl⟩ : ∃ k, g = k + 1 := ⟨g - 1, by omega⟩
    have hg : f ≤ g := by omega
    rw [kv_ev] at e ⊢
    cases hn : kv_nx j pc ls st h with
    | none => rw [hn] at e; cases e
    | some x =>
      rw [hn] at e
      rcases x with v | ⟨pc', ls', st', h'⟩ | ⟨j', as, pc', ls', rest⟩
      · exact e
      · exact ih _ _ _ _ _ _ _ e _ hg
      · cases d with
        | zero => cases e
        | succ d =>
          dsimp only at e ⊢
          cases hc : kv_ev f d j' 0 (kv_en j' as) [] h with
          | none => rw [hc] at e; cases e
          | some p =>
            rw [hc] at e
            rw [ih _ _ _ _ _ _ _ hc _ hg]
            obtain ⟨v, h'⟩ := p
            exact ih _ _ _ _ _ _ _ e _ hg
/-- what a method's run comes to, any number of steps -/
noncomputable def kv_Rn (d j pc : Nat) (ls : kv_L) (st : List Value) (h : kv_H) : Option (Option Value × kv_H) :=
  @dite _ (∃ (o : Option Value × kv_H) (f : Nat), kv_ev f d j pc ls st h = some o) (Classical.propDecidable _) (fun q => some (Classical.choose q)) (fun _ => none)
theorem kv_Rn_iff {d j pc : Nat} {ls : kv_L} {st : List Value} {h : kv_H} {o : Option Value × kv_H} : kv_Rn d j pc ls st h = some o ↔ ∃ f, kv_ev f d j pc ls st h = some o := by
  unfold kv_Rn
  constructor
  · intro e
    split at e
    · rename_i q
      cases e
      exact Classical.choose_spec q
    · cases e
  · rintro ⟨f, e⟩
    have q : ∃ (o : Option Value × kv_H) (f : Nat), kv_ev f d j pc ls st h = some o := ⟨o, f, e⟩
    rw [dif_pos q]
    obtain ⟨g, eg⟩ := Classical.choose_spec q
    have h1 := kv_ev_mono _ _ _ _ _ _ _ _ e (max f g) (Nat.le_max_left _ _)
    have h2 := kv_ev_mono _ _ _ _ _ _ _ _ eg (max f g) (Nat.le_max_right _ _)
    exact congrArg some (Option.some.inj (h2.symm.trans h1))
theorem kv_opt {α : Type} {a b : Option α} (h : ∀ x, a = some x ↔ b = some x) : a = b := by
  cases a with
  | some x => exact ((h x).mp rfl).symm
  | none => cases b with
    | none => rfl
    | some y => exact (h y).mpr rfl
theorem kv_Rn_go {d j pc : Nat} {ls : kv_L} {st : List Value} {h : kv_H} {pc' : Nat} {ls' : kv_L} {st' : List Value} {h' : kv_H} (e : kv_nx j pc ls st h = kv_go pc' ls' st' h') : kv_Rn d j pc ls st h = kv_Rn d j pc' ls' st' h' := by
  refine kv_opt fun o => ?_
  rw [kv_Rn_iff, kv_Rn_iff]
  constructor
  · rintro ⟨f, hf⟩
    cases f with
    | zero => cases hf
    | succ f =>
      rw [kv_ev, e] at hf
      exact ⟨f, hf⟩
  · rintro ⟨f, hf⟩
    exact ⟨f + 1, by rw [kv_ev, e]; exact hf⟩
theorem kv_Rn_ret {d j pc : Nat} {ls : kv_L} {st : List Value} {h : kv_H} {v : Option Value} (e : kv_nx j pc ls st h = some (.inl v)) : kv_Rn d j pc ls st h = some (v, h) := by
  rw [kv_Rn_iff]
  exact ⟨1, by rw [kv_ev, e]⟩
theorem kv_Rn_none {d j pc : Nat} {ls : kv_L} {st : List Value} {h : kv_H} (e : kv_nx j pc ls st h = none) : kv_Rn d j pc ls st h = none := by
  cases hr : kv_Rn d j pc ls st h with
  | none => rfl
  | some o =>
    obtain ⟨f, hf⟩ := kv_Rn_iff.mp hr
    cases f with
    | zero => cases hf
    | succ f => rw [kv_ev, e] at hf; cases hf
theorem kv_Rn_call {d j pc : Nat} {ls : kv_L} {st : List Value} {h : kv_H} {j' pc' : Nat} {as rest : List Value} {ls' : kv_L} (hd : 1 ≤ d) (e : kv_nx j pc ls st h = some (.inr (.inr (j', as, pc', ls', rest)))) :
    kv_Rn d j pc ls st h = (kv_Rn (d - 1) j' 0 (kv_en j' as) [] h).bind (fun o => kv_Rn d j pc' ls' (o.1.toList ++ rest) o.2) := by
  obtain ⟨d, rfl⟩ : ∃ k, d = k + 1 := ⟨d - 1, by omega⟩
  rw [Nat.add_sub_cancel]
  refine kv_opt fun o => ?_
  rw [kv_Rn_iff]
  constructor
  · rintro ⟨f, hf⟩
    cases f with
    | zero => cases hf
    | succ f =>
      rw [kv_ev, e] at hf
      dsimp only at hf
      cases hc : kv_ev f d j' 0 (kv_en j' as) [] h with
      | none => rw [hc] at hf; cases hf
      | some p =>
        rw [hc] at hf
        obtain ⟨v, h'⟩ := p
        rw [kv_Rn_iff.mpr ⟨f, hc⟩]
        exact kv_Rn_iff.mpr ⟨f, hf⟩
  · intro hb
    obtain ⟨p, hp, hq⟩ := Option.bind_eq_some_iff.mp hb
    obtain ⟨f, hf⟩ := kv_Rn_iff.mp hp
    obtain ⟨g, hg⟩ := kv_Rn_iff.mp hq
    refine ⟨max f g + 1, ?_⟩
    rw [kv_ev, e]
    dsimp only
    rw [kv_ev_mono _ _ _ _ _ _ _ _ hf (max f g) (Nat.le_max_left _ _)]
    exact kv_ev_mono _ _ _ _ _ _ _ _ hg (max f g) (Nat.le_max_right _ _)
