/-! THE ABSTRACT MACHINE: memory is a function from places to cells (references are places), a method's code a table of operations; 'jx_run' runs it. -/
abbrev jx_C : Type := (Nat × vp_A) ⊕ (Nat × List Value)
abbrev jx_M : Type := (Nat → jx_C) × Nat × Nat × Nat
abbrev jx_L : Type := List (Option Value)
abbrev jx_R : Type := Option Value ⊕ Nat
abbrev jx_N : Type := (Nat × jx_L × List Value × jx_M) ⊕ (jx_R × jx_M) ⊕ (Nat × List Value × List Value × Nat)
abbrev jx_O : Type := Nat → jx_L → List Value → jx_M → Option jx_N
/-- places below jx_g are what the program finds there (its script, constants); the rest it makes -/
def jx_g : Nat := 16
def jx_dead : jx_C := .inr (9999, [])
def jx_up (h : Nat → jx_C) (k : Nat) (c : jx_C) : Nat → jx_C := fun j => if j = k then c else h j
def jx_st (M : jx_M) (k : Nat) (c : jx_C) : jx_M := (jx_up M.1 k c, M.2)
def jx_pu (M : jx_M) (c : jx_C) (w : Nat) : Option jx_M := if 1 ≤ M.2.2.1 ∧ w ≤ M.2.2.2 then some (jx_up M.1 M.2.1 c, M.2.1 + 1, M.2.2.1 - 1, M.2.2.2 - w) else none
def jx_c2 (o : Option Value) : Bool := match o with
  | some (.long _) => true
  | some (.double _) => true
  | _ => false
def jx_s1 (L : jx_L) (i : Nat) (v : Value) : Option jx_L := if i < L.length ∧ (i = 0 ∨ jx_c2 (L.getD (i - 1) none) = false) then some (L.set i (some v)) else none
def jx_s2 (L : jx_L) (i : Nat) (v : Value) : Option jx_L := if i + 1 < L.length ∧ (i = 0 ∨ jx_c2 (L.getD (i - 1) none) = false) then some ((L.set i (some v)).set (i + 1) none) else none
/-! operations -/
def o_push (v : Value) (len : Nat) : jx_O := fun pc L st M => some (.inl (pc + len, L, v :: st, M))
def o_ild (i len : Nat) : jx_O := fun pc L st M => match L.getD i none with
  | some (.int x) => some (.inl (pc + len, L, .int x :: st, M))
  | _ => none
def o_lld (i len : Nat) : jx_O := fun pc L st M => match L.getD i none with
  | some (.long x) => some (.inl (pc + len, L, .long x :: st, M))
  | _ => none
def o_ald (i len : Nat) : jx_O := fun pc L st M => match L.getD i none with
  | some (.ref x) => some (.inl (pc + len, L, .ref x :: st, M))
  | some .null => some (.inl (pc + len, L, .null :: st, M))
  | _ => none
def o_ist (i len : Nat) : jx_O := fun pc L st M => match st with
  | .int x :: r => (jx_s1 L i (.int x)).map fun L' => .inl (pc + len, L', r, M)
  | _ => none
def o_lst (i len : Nat) : jx_O := fun pc L st M => match st with
  | .long x :: r => (jx_s2 L i (.long x)).map fun L' => .inl (pc + len, L', r, M)
  | _ => none
def o_ast (i len : Nat) : jx_O := fun pc L st M => match st with
  | .ref x :: r => (jx_s1 L i (.ref x)).map fun L' => .inl (pc + len, L', r, M)
  | .null :: r => (jx_s1 L i .null).map fun L' => .inl (pc + len, L', r, M)
  | _ => none
def o_iinc (i : Nat) (k : Int32) : jx_O := fun pc L st M => match L.getD i none with
  | some (.int x) => (jx_s1 L i (.int (x + k))).map fun L' => .inl (pc + 3, L', st, M)
  | _ => none
def o_bin (f : Int32 → Int32 → Int32) : jx_O := fun pc L st M => match st with
  | .int y :: .int x :: r => some (.inl (pc + 1, L, .int (f x y) :: r, M))
  | _ => none
def o_un (f : Int32 → Int32) : jx_O := fun pc L st M => match st with
  | .int x :: r => some (.inl (pc + 1, L, .int (f x) :: r, M))
  | _ => none
def o_binl (f : Int64 → Int64 → Int64) : jx_O := fun pc L st M => match st with
  | .long y :: .long x :: r => some (.inl (pc + 1, L, .long (f x y) :: r, M))
  | _ => none
def o_shl (f : Int64 → Int32 → Int64) : jx_O := fun pc L st M => match st with
  | .int y :: .long x :: r => some (.inl (pc + 1, L, .long (f x y) :: r, M))
  | _ => none
def o_i2l : jx_O := fun pc L st M => match st with
  | .int x :: r => some (.inl (pc + 1, L, .long x.toInt64 :: r, M))
  | _ => none
def o_l2i : jx_O := fun pc L st M => match st with
  | .long x :: r => some (.inl (pc + 1, L, .int x.toInt32 :: r, M))
  | _ => none
def o_lcmp : jx_O := fun pc L st M => match st with
  | .long y :: .long x :: r => some (.inl (pc + 1, L, .int (lg_cmp x y) :: r, M))
  | _ => none
def jx_v1 (v : Value) : Bool := match v with
  | .long _ => false
  | .double _ => false
  | _ => true
def o_dup : jx_O := fun pc L st M => match st with
  | a :: r => if jx_v1 a = true then some (.inl (pc + 1, L, a :: a :: r, M)) else none
  | _ => none
def o_pop : jx_O := fun pc L st M => match st with
  | a :: r => if jx_v1 a = true then some (.inl (pc + 1, L, r, M)) else none
  | _ => none
def o_dup_x1 : jx_O := fun pc L st M => match st with
  | a :: b :: r => if jx_v1 a = true ∧ jx_v1 b = true then some (.inl (pc + 1, L, a :: b :: a :: r, M)) else none
  | _ => none
def o_dup2 : jx_O := fun pc L st M => match st with
  | a :: b :: r => if jx_v1 a = true ∧ jx_v1 b = true then some (.inl (pc + 1, L, a :: b :: a :: b :: r, M)) else none
  | _ => none
def o_goto (t : Nat) : jx_O := fun _ L st M => some (.inl (t, L, st, M))
def o_ifeq (t : Nat) : jx_O := fun pc L st M => match st with
  | .int x :: r => some (.inl (if x = 0 then t else pc + 3, L, r, M))
  | _ => none
def o_ifne (t : Nat) : jx_O := fun pc L st M => match st with
  | .int x :: r => some (.inl (if x = 0 then pc + 3 else t, L, r, M))
  | _ => none
def o_iflt (t : Nat) : jx_O := fun pc L st M => match st with
  | .int x :: r => some (.inl (if x < 0 then t else pc + 3, L, r, M))
  | _ => none
def o_ifge (t : Nat) : jx_O := fun pc L st M => match st with
  | .int x :: r => some (.inl (if x < 0 then pc + 3 else t, L, r, M))
  | _ => none
def o_ifgt (t : Nat) : jx_O := fun pc L st M => match st with
  | .int x :: r => some (.inl (if 0 < x then t else pc + 3, L, r, M))
  | _ => none
def o_ifle (t : Nat) : jx_O := fun pc L st M => match st with
  | .int x :: r => some (.inl (if 0 < x then pc + 3 else t, L, r, M))
  | _ => none
def o_ieq (t : Nat) : jx_O := fun pc L st M => match st with
  | .int y :: .int x :: r => some (.inl (if x = y then t else pc + 3, L, r, M))
  | _ => none
def o_ine (t : Nat) : jx_O := fun pc L st M => match st with
  | .int y :: .int x :: r => some (.inl (if x = y then pc + 3 else t, L, r, M))
  | _ => none
def o_ilt (t : Nat) : jx_O := fun pc L st M => match st with
  | .int y :: .int x :: r => some (.inl (if x < y then t else pc + 3, L, r, M))
  | _ => none
def o_ige (t : Nat) : jx_O := fun pc L st M => match st with
  | .int y :: .int x :: r => some (.inl (if x < y then pc + 3 else t, L, r, M))
  | _ => none
def o_igt (t : Nat) : jx_O := fun pc L st M => match st with
  | .int y :: .int x :: r => some (.inl (if y < x then t else pc + 3, L, r, M))
  | _ => none
def o_ile (t : Nat) : jx_O := fun pc L st M => match st with
  | .int y :: .int x :: r => some (.inl (if y < x then pc + 3 else t, L, r, M))
  | _ => none
def o_ifnull (t : Nat) : jx_O := fun pc L st M => match st with
  | .null :: r => some (.inl (t, L, r, M))
  | .ref _ :: r => some (.inl (pc + 3, L, r, M))
  | _ => none
def o_ifnonnull (t : Nat) : jx_O := fun pc L st M => match st with
  | .null :: r => some (.inl (pc + 3, L, r, M))
  | .ref _ :: r => some (.inl (t, L, r, M))
  | _ => none
/-- a switch over 0 .. ts.length - 1 -/
def o_table (dflt : Nat) (ts : List Nat) : jx_O := fun _ L st M => match st with
  | .int x :: r => some (.inl (if x < 0 then dflt else ts.getD x.toNatClampNeg dflt, L, r, M))
  | _ => none
def o_getf (ci k : Nat) : jx_O := fun pc L st M => match st with
  | .ref a :: r => match M.1 a with
    | .inr (c, fs) => if c = ci then (fs[k]?).map fun v => .inl (pc + 3, L, v :: r, M) else none
    | _ => none
  | _ => none
def o_putf (ci k : Nat) (ok : Value → Bool) : jx_O := fun pc L st M => match st with
  | v :: .ref a :: r => match M.1 a with
    | .inr (c, fs) => if c = ci ∧ ok v = true ∧ k < fs.length then some (.inl (pc + 3, L, r, jx_st M a (.inr (ci, fs.set k v)))) else none
    | _ => none
  | _ => none
def jx_ix (i : Int32) (n : Nat) : Bool := decide (¬ i < 0) && decide (i.toNatClampNeg < n)
def o_iald : jx_O := fun pc L st M => match st with
  | .int i :: .ref a :: r => match M.1 a with
    | .inl (t, n, .inl f) => if (t = 0 ∨ t = 9) ∧ jx_ix i n = true then some (.inl (pc + 1, L, .int (f i.toNatClampNeg) :: r, M)) else none
    | _ => none
  | _ => none
def o_xald (t0 : Nat) : jx_O := fun pc L st M => match st with
  | .int i :: .ref a :: r => match M.1 a with
    | .inl (t, n, .inl f) => if t = t0 ∧ jx_ix i n = true then some (.inl (pc + 1, L, .int (f i.toNatClampNeg) :: r, M)) else none
    | _ => none
  | _ => none
/-- a byte of a constant's array -/
def o_bald : jx_O := fun pc L st M => match st with
  | .int i :: .ref a :: r => match M.1 a with
    | .inl (t, n, .inl f) => if t = 10 ∧ jx_ix i n = true then some (.inl (pc + 1, L, .int (f i.toNatClampNeg) :: r, M)) else none
    | _ => none
  | _ => none
def o_lald : jx_O := fun pc L st M => match st with
  | .int i :: .ref a :: r => match M.1 a with
    | .inl (t, n, .inr (.inl f)) => if t = 3 ∧ jx_ix i n = true then some (.inl (pc + 1, L, .long (f i.toNatClampNeg) :: r, M)) else none
    | _ => none
  | _ => none
def o_aald : jx_O := fun pc L st M => match st with
  | .int i :: .ref a :: r => match M.1 a with
    | .inl (t, n, .inr (.inr (.inr (.inr f)))) => if t = 4 ∧ jx_ix i n = true then some (.inl (pc + 1, L, va_rf (f i.toNatClampNeg) :: r, M)) else none
    | _ => none
  | _ => none
def o_iast : jx_O := fun pc L st M => match st with
  | .int x :: .int i :: .ref a :: r => match M.1 a with
    | .inl (t, n, .inl f) => if t = 0 ∧ jx_ix i n = true then some (.inl (pc + 1, L, r, jx_st M a (.inl (0, n, .inl (upd f i.toNatClampNeg x))))) else none
    | _ => none
  | _ => none
def o_cast : jx_O := fun pc L st M => match st with
  | .int x :: .int i :: .ref a :: r => match M.1 a with
    | .inl (t, n, .inl f) => if t = 1 ∧ jx_ix i n = true then some (.inl (pc + 1, L, r, jx_st M a (.inl (1, n, .inl (upd f i.toNatClampNeg (vp_nar .char x)))))) else none
    | _ => none
  | _ => none
def o_zast : jx_O := fun pc L st M => match st with
  | .int x :: .int i :: .ref a :: r => match M.1 a with
    | .inl (t, n, .inl f) => if t = 2 ∧ jx_ix i n = true then some (.inl (pc + 1, L, r, jx_st M a (.inl (2, n, .inl (upd f i.toNatClampNeg (vp_nar .boolean x)))))) else none
    | _ => none
  | _ => none
def o_last : jx_O := fun pc L st M => match st with
  | .long x :: .int i :: .ref a :: r => match M.1 a with
    | .inl (t, n, .inr (.inl f)) => if t = 3 ∧ jx_ix i n = true then some (.inl (pc + 1, L, r, jx_st M a (.inl (3, n, .inr (.inl (vp_updL f i.toNatClampNeg x)))))) else none
    | _ => none
  | _ => none
/-- into an array of the objects of class ci -/
def o_aast (ci : Nat) : jx_O := fun pc L st M => match st with
  | .ref v :: .int i :: .ref a :: r => match M.1 a, M.1 v with
    | .inl (t, n, .inr (.inr (.inr (.inr f)))), .inr (c, _) => if t = 4 ∧ c = ci ∧ jx_ix i n = true then some (.inl (pc + 1, L, r, jx_st M a (.inl (4, n, .inr (.inr (.inr (.inr (va_up f i.toNatClampNeg (some v))))))))) else none
    | _, _ => none
  | _ => none
def o_alen : jx_O := fun pc L st M => match st with
  | .ref a :: r => match M.1 a with
    | .inl (t, n, _) => if t < 5 ∨ t = 9 ∨ t = 10 then some (.inl (pc + 1, L, .int (Int32.ofNat n) :: r, M)) else none
    | _ => none
  | _ => none
def o_new (ci : Nat) (fs : List Value) : jx_O := fun pc L st M =>
  (jx_pu M (.inr (ci, fs)) fs.length).map fun M' => .inl (pc + 3, L, .ref M.2.1 :: st, M')
def o_newa (t : Nat) (z : Nat → vp_A) : jx_O := fun pc L st M => match st with
  | .int n :: r => if ¬ n < 0 ∧ n.toNatClampNeg ≤ 100000 then (jx_pu M (.inl (t, z n.toNatClampNeg)) n.toNatClampNeg).map fun M' => .inl (pc + (if t = 4 then 3 else 2), L, .ref M.2.1 :: r, M') else none
  | _ => none
def jx_zi (n : Nat) : vp_A := (n, .inl fun _ => 0)
def jx_zl (n : Nat) : vp_A := (n, .inr (.inl fun _ => 0))
def jx_zq (n : Nat) : vp_A := (n, .inr (.inr (.inr (.inr fun _ => none))))
def o_ret : jx_O := fun _ _ st M => match st with
  | [] => some (.inr (.inl (.inl none, M)))
  | _ => none
def o_iret : jx_O := fun _ _ st M => match st with
  | [.int x] => some (.inr (.inl (.inl (some (.int x)), M)))
  | _ => none
/-- a boolean answer -/
def o_zret : jx_O := fun _ _ st M => match st with
  | [.int x] => if x = 0 ∨ x = 1 then some (.inr (.inl (.inl (some (.int x)), M))) else none
  | _ => none
def o_cret : jx_O := fun _ _ st M => match st with
  | [.int x] => if vp_nar .char x = x then some (.inr (.inl (.inl (some (.int x)), M))) else none
  | _ => none
def o_bret : jx_O := fun _ _ st M => match st with
  | [.int x] => if vp_nar .byte x = x then some (.inr (.inl (.inl (some (.int x)), M))) else none
  | _ => none
/-- System.arraycopy between two arrays of ints or of chars -/
def o_copy : jx_O := fun pc L st M => match st with
  | .int n :: .int dp :: .ref b :: .int sp :: .ref a :: r => match M.1 a, M.1 b with
    | .inl (t, n0, .inl f), .inl (t', n1, .inl g) => if (t = 0 ∨ t = 1 ∧ ((List.range n.toNatClampNeg).all fun i => fits .char (.int (f (sp.toNatClampNeg + i)))) = true) ∧ t' = t ∧ ¬ sp < 0 ∧ ¬ dp < 0 ∧ ¬ n < 0 ∧ sp.toNatClampNeg + n.toNatClampNeg ≤ n0 ∧ dp.toNatClampNeg + n.toNatClampNeg ≤ n1 ∧ r.length ≤ 4 then some (.inl (pc + 3, L, r, jx_st M b (.inl (t, n1, .inl (va_cpy f g sp.toNatClampNeg dp.toNatClampNeg n.toNatClampNeg))))) else none
    | _, _ => none
  | _ => none
def o_aret : jx_O := fun _ _ st M => match st with
  | [.ref a] => some (.inr (.inl (.inl (some (.ref a)), M)))
  | [.null] => some (.inr (.inl (.inl (some .null), M)))
  | _ => none
/-- a call: n values, the receiver among them -/
def o_call (ce n : Nat) : jx_O := fun pc _ st _ => if n ≤ st.length ∧ st.length ≤ n + 4 then some (.inr (.inr (ce, (st.take n).reverse, st.drop n, pc + 3))) else none
/-- a call on an object of class ci -/
def o_callv (ci ce n : Nat) : jx_O := fun pc _ st M => if n < st.length ∧ st.length ≤ n + 5 then match st.getD n .null with
  | .ref a => match M.1 a with
    | .inr (c, _) => if c = ci then some (.inr (.inr (ce, (st.take (n + 1)).reverse, st.drop (n + 1), pc + 3))) else none
    | _ => none
  | _ => none
  else none
/-- Object() -/
def o_oinit : jx_O := fun pc L st M => match st with
  | .ref _ :: r => if r.length ≤ 4 then some (.inl (pc + 3, L, r, M)) else none
  | _ => none
/-- new E(text), thrown: out of the method -/
def o_thr (ci : Nat) : jx_O := fun _ _ st M => if st.length ≤ 4 then (jx_pu M (.inr (ci, [])) 6).map fun M' => .inr (.inl (.inr M.2.1, M')) else none
/-! methods -/
/-- name, bytes, locals, answer, handlers (with the class that each takes) -/
abbrev jx_D : Type := MethodName × ByteArray × Nat × Option FieldType × List ((Nat × Nat × Nat × Nat) × String)
def jx_en (as : List Value) (n : Nat) : jx_L := (as.flatMap fun v => if jx_v1 v = true then [some v] else [some v, none]) ++ List.replicate (n - (as.flatMap fun v => if jx_v1 v = true then [some v] else [some v, none]).length) none
/-- handlers of a method as the abstract machine has them: start, end, handler, the class; none: it doesn't say; some none: no handler there -/
def jx_hf (pc ci : Nat) : List (Nat × Nat × Nat × Nat) → Option Nat
  | [] => none
  | h :: t => if h.1 ≤ pc ∧ pc < h.2.1 ∧ h.2.2.2 = ci then some h.2.2.1 else jx_hf pc ci t
def jx_ho (pc : Nat) : List (Nat × Nat × Nat × Nat) → Bool
  | [] => true
  | h :: t => if h.1 ≤ pc ∧ pc < h.2.1 then false else jx_ho pc t
def jx_hd (pc ci : Nat) (hs : List (Nat × Nat × Nat × Nat)) : Option (Option Nat) := if jx_ho pc hs = true then some none else (jx_hf pc ci hs).map some
def jx_cl (c : jx_C) : Nat := match c with
  | .inr (ci, _) => ci
  | _ => 9999
def jx_run (ml : Nat → Nat) (hs : Nat → List (Nat × Nat × Nat × Nat)) (cd : Nat → Nat → Option jx_O) : Nat → Nat → Nat → Nat → jx_L → List Value → jx_M → Option (jx_R × jx_M)
  | 0, _, _, _, _, _, _ => none
  | f + 1, d, mi, pc, L, st, M => match cd mi pc with
    | none => none
    | some op => match op pc L st M with
      | none => none
      | some (.inl (pc', L', st', M')) => jx_run ml hs cd f d mi pc' L' st' M'
      | some (.inr (.inl (r, M'))) => some (r, M')
      | some (.inr (.inr (ce, as, rest, pc'))) => match d with
        | 0 => none
        | d' + 1 => if (jx_en as (ml ce)).length = ml ce then match jx_run ml hs cd f d' ce 0 (jx_en as (ml ce)) [] M with
          | none => none
          | some (.inl v, M') => jx_run ml hs cd f (d' + 1) mi pc' L (v.toList ++ rest) M'
          | some (.inr k, M') => match jx_hd pc (jx_cl (M'.1 k)) (hs mi) with
            | none => none
            | some (some hp) => jx_run ml hs cd f (d' + 1) mi hp L [.ref k] M'
            | some none => some (.inr k, M')
          else none
