-- THE ABSTRACT MACHINE: a frame's weakest precondition over a heap that is a function. pg_ names: the program's tables (part 01).
abbrev am_E : Type := (FieldType × vp_A) ⊕ (Nat × List Value)
abbrev am_H : Type := Nat → Option am_E
def am_set (h : am_H) (a : Nat) (e : am_E) : am_H := fun q => if q = a then some e else h q
abbrev am_R : Type := Option Value ⊕ Nat
abbrev am_K : Type := am_R → am_H → Prop
abbrev am_L : Type := List (Option Value)
abbrev am_X : Type := Nat → am_L → List Value → am_H → Nat → Nat → Prop
abbrev am_C : Type := Nat → List Value → am_H → am_K → Prop
abbrev am_G : Type := Nat × Nat × (Nat → Int32)
/-- locals: a store of one word, of two -/
def am_pre (lv : am_L) : Nat → am_L
  | 0 => lv
  | j + 1 => match lv[j]? with
    | some (some v) => if v.category = 2 then lv.set j none else lv
    | _ => lv
def am_st1 (lv : am_L) (i : Nat) (v : Value) : am_L := (am_pre lv i).set i (some v)
def am_st2 (lv : am_L) (i : Nat) (v : Value) : am_L := ((am_pre lv i).set i (some v)).set (i + 1) none
def am_cmp (c : ClassFile.Cond) (a b : Int32) : Prop := match c with
  | .eq => a = b
  | .ne => ¬ a = b
  | .lt => a < b
  | .ge => b ≤ a
  | .gt => b < a
  | .le => a ≤ b
def am_br (c A B : Prop) : Prop := (c → A) ∧ (¬ c → B)
def am_li (lv : am_L) (n : Nat) (F : Int32 → Prop) : Prop := match lv[n]? with
  | some (some (.int a)) => F a
  | _ => False
def am_ll (lv : am_L) (n : Nat) (F : Int64 → Prop) : Prop := match lv[n]? with
  | some (some (.long a)) => F a
  | _ => False
def am_la (lv : am_L) (n : Nat) (F : Value → Prop) : Prop := match lv[n]? with
  | some (some (.ref a)) => F (.ref a)
  | some (some .null) => F .null
  | _ => False
def am_si (st : List Value) (F : Int32 → List Value → Prop) : Prop := match st with
  | .int a :: r => F a r
  | _ => False
def am_sl (st : List Value) (F : Int64 → List Value → Prop) : Prop := match st with
  | .long a :: r => F a r
  | _ => False
def am_sa (st : List Value) (F : Value → List Value → Prop) : Prop := match st with
  | .ref a :: r => F (.ref a) r
  | .null :: r => F .null r
  | _ => False
def am_sr (st : List Value) (F : Nat → List Value → Prop) : Prop := match st with
  | .ref a :: r => F a r
  | _ => False
def am_sv (st : List Value) (F : Value → List Value → Prop) : Prop := match st with
  | v :: r => F v r
  | _ => False
def am_ii (st : List Value) (F : Int32 → Int32 → List Value → Prop) : Prop := match st with
  | .int b :: .int a :: r => F a b r
  | _ => False
def am_lll (st : List Value) (F : Int64 → Int64 → List Value → Prop) : Prop := match st with
  | .long b :: .long a :: r => F a b r
  | _ => False
def am_lsh (st : List Value) (F : Int64 → Int32 → List Value → Prop) : Prop := match st with
  | .int b :: .long a :: r => F a b r
  | _ => False
/-- index and array on the stack -/
def am_ia (st : List Value) (F : Nat → Int32 → List Value → Prop) : Prop := match st with
  | .int i :: .ref a :: r => F a i r
  | _ => False
def am_via (st : List Value) (F : Nat → Int32 → Value → List Value → Prop) : Prop := match st with
  | v :: .int i :: .ref a :: r => F a i v r
  | _ => False
/-- an object's fields, an array of ints (booleans), of longs, of references -/
def am_ob (h : am_H) (a ci : Nat) (F : List Value → Prop) : Prop := match h a with
  | some (.inr (c, fs)) => c = ci ∧ F fs
  | _ => False
def am_ai (h : am_H) (a : Nat) (ty : FieldType) (F : Nat → (Nat → Int32) → Prop) : Prop := match h a with
  | some (.inl (t, n, .inl f)) => t = ty ∧ F n f
  | _ => False
def am_al (h : am_H) (a : Nat) (F : Nat → (Nat → Int64) → Prop) : Prop := match h a with
  | some (.inl (t, n, .inr (.inl f))) => t = .long ∧ F n f
  | _ => False
def am_aa (h : am_H) (a : Nat) (F : String → Nat → (Nat → Option Nat) → Prop) : Prop := match h a with
  | some (.inl (.object C, n, .inr (.inr (.inr (.inr f))))) => F C n f
  | _ => False
def am_an (h : am_H) (a : Nat) (F : Nat → Prop) : Prop := match h a with
  | some (.inl (_, n, _)) => F n
  | _ => False
def am_opt {α : Type} (o : Option α) (F : α → Prop) : Prop := match o with
  | some v => F v
  | none => False
/-- a call of method x with y values: what it gives back, or where what it throws is caught -/
def am_back (k : Nat) (K : am_K) (X : am_X) (x pc : Nat) (lv : am_L) (rest : List Value) (nc ns : Nat) : am_K := fun r h => match r with
  | .inl v => X (pc + 3) lv (v.toList ++ rest) h (nc + pg_mc x) (ns + pg_ms x)
  | .inr E => match pg_hnd k pc E with
    | some t => ∀ q : Nat, X t lv [.ref q] h (nc + pg_mc x) (ns + pg_ms x)
    | none => pg_tab k = [] ∧ K (.inr E) h
def am_words (st : List Value) : Nat := (st.map fun v => v.category).sum
def am_call (C : am_C) (k : Nat) (K : am_K) (X : am_X) (x y pc : Nat) (lv : am_L) (st : List Value) (h : am_H) (nc ns : Nat) : Prop :=
  (y ≤ st.length ∧ am_words (st.drop y) ≤ 8 ∧ nc + pg_mc x ≤ pg_mc k ∧ ns + pg_ms x ≤ pg_ms k ∧ (pg_stat x = false → am_sr (st.take y).reverse (fun a _ => am_ob h a (pg_cls x) (fun _ => True)))) ∧
    C x (st.take y).reverse h (am_back k K X x pc lv (st.drop y) nc ns)
/-- System.arraycopy of numbers -/
def am_copy (h : am_H) (a0 : Nat) (sp : Int32) (a1 : Nat) (dp n : Int32) (F : am_H → Prop) : Prop := match h a0, h a1 with
  | some (.inl (t0, n0, .inl f)), some (.inl (t1, n1, .inl g)) =>
    (t0 = t1 ∧ refKind t0 = false ∧ ¬ sp < 0 ∧ ¬ dp < 0 ∧ ¬ n < 0 ∧ sp.toNatClampNeg + n.toNatClampNeg ≤ n0 ∧ dp.toNatClampNeg + n.toNatClampNeg ≤ n1 ∧ ∀ i, i < n.toNatClampNeg → fits t0 (.int (f (sp.toNatClampNeg + i))) = true) ∧
      F (am_set h a1 (.inl (t1, n1, .inl (va_cpy f g sp.toNatClampNeg dp.toNatClampNeg n.toNatClampNeg))))
  | some (.inl (t0, n0, .inr (.inl f))), some (.inl (t1, n1, .inr (.inl g))) =>
    (t0 = .long ∧ t1 = .long ∧ ¬ sp < 0 ∧ ¬ dp < 0 ∧ ¬ n < 0 ∧ sp.toNatClampNeg + n.toNatClampNeg ≤ n0 ∧ dp.toNatClampNeg + n.toNatClampNeg ≤ n1) ∧
      F (am_set h a1 (.inl (t1, n1, .inr (.inl (va_cpy f g sp.toNatClampNeg dp.toNatClampNeg n.toNatClampNeg)))))
  | _, _ => False
def am_st5 (st : List Value) (F : Nat → Int32 → Nat → Int32 → Int32 → List Value → Prop) : Prop := match st with
  | .int n :: .int dp :: .ref a1 :: .int sp :: .ref a0 :: r => F a0 sp a1 dp n r
  | _ => False
/-- calls: 900 Object.<init>, 901 arraycopy, 902 and 903 max and min of ints, 904 and 905 of longs; else a method of the program -/
def am_inv (C : am_C) (k : Nat) (K : am_K) (X : am_X) (x y pc : Nat) (lv : am_L) (st : List Value) (h : am_H) (nc ns : Nat) : Prop := match x with
  | 900 => am_sr st fun _ r => am_words r ≤ 8 ∧ X (pc + 3) lv r h nc ns
  | 901 => am_st5 st fun a0 sp a1 dp n r => am_words r ≤ 8 ∧ am_copy h a0 sp a1 dp n (fun h' => X (pc + 3) lv r h' nc ns)
  | 902 => am_ii st fun a b r => am_words r ≤ 8 ∧ X (pc + 3) lv (.int (if a < b then b else a) :: r) h nc ns
  | 903 => am_ii st fun a b r => am_words r ≤ 8 ∧ X (pc + 3) lv (.int (if b < a then b else a) :: r) h nc ns
  | 904 => am_lll st fun a b r => am_words r ≤ 8 ∧ X (pc + 3) lv (.long (if b < a then a else b) :: r) h nc ns
  | _ => am_call C k K X x y pc lv st h nc ns
/-- new: an object of class x, or (from 500 on) 'throw new E(..)' whole -/
def am_new (k : Nat) (K : am_K) (X : am_X) (x pc : Nat) (lv : am_L) (st : List Value) (h : am_H) (nc ns : Nat) : Prop :=
  if x < 500 then (nc + 1 ≤ pg_mc k ∧ ns + pg_nf x ≤ pg_ms k) ∧ ∀ q : Nat, h q = none → X (pc + 3) lv (.ref q :: st) (am_set h q (.inr (x, (List.range (pg_nf x)).map (fun j => defaultValue (pg_ty x j))))) (nc + 1) (ns + pg_nf x)
  else (nc + 1 ≤ pg_mc k ∧ ns + 6 ≤ pg_ms k ∧ am_words st ≤ 8) ∧ K (.inr x) h
def am_zero (t : ArrayType) (n : Nat) : Option (FieldType × vp_A) := match t with
  | .int => some (.int, n, .inl (fun _ => 0))
  | .boolean => some (.boolean, n, .inl (fun _ => 0))
  | .long => some (.long, n, .inr (.inl (fun _ => 0)))
  | _ => none
def am_newa (k : Nat) (X : am_X) (t : ArrayType) (pc : Nat) (lv : am_L) (n : Int32) (r : List Value) (h : am_H) (nc ns : Nat) : Prop :=
  (¬ n < 0 ∧ n.toNatClampNeg ≤ 1000000 ∧ nc + 1 ≤ pg_mc k ∧ ns + n.toNatClampNeg ≤ pg_ms k) ∧
    am_opt (am_zero t n.toNatClampNeg) fun e => ∀ q : Nat, h q = none → X (pc + 2) lv (.ref q :: r) (am_set h q (.inl e)) (nc + 1) (ns + n.toNatClampNeg)
def am_newq (k : Nat) (X : am_X) (x pc : Nat) (lv : am_L) (n : Int32) (r : List Value) (h : am_H) (nc ns : Nat) : Prop :=
  (¬ n < 0 ∧ n.toNatClampNeg ≤ 1000000 ∧ nc + 1 ≤ pg_mc k ∧ ns + n.toNatClampNeg ≤ pg_ms k) ∧
    ∀ q : Nat, h q = none → X (pc + 3) lv (.ref q :: r) (am_set h q (.inl (.object (pg_cname x), n.toNatClampNeg, .inr (.inr (.inr (.inr (fun _ => none))))))) (nc + 1) (ns + n.toNatClampNeg)
def am_tsw (dflt lo hi : Int) (offs : Array Int) (pc : Nat) (a : Int32) : Nat :=
  if a.toInt < lo ∨ hi < a.toInt then ((pc : Int) + dflt).toNat else match offs[(a.toInt - lo).toNat]? with
    | some o => ((pc : Int) + o).toNat
    | none => 0
/-- one instruction: from its state to those behind it -/
def am_ins (G : am_G) (C : am_C) (k : Nat) (K : am_K) (X : am_X) (i : Instr) (x y pc : Nat) (lv : am_L) (st : List Value) (h : am_H) (nc ns : Nat) : Prop := match i with
  | .iconst n => X (pc + 1) lv (.int (Int32.ofInt n) :: st) h nc ns
  | .bipush n => X (pc + 2) lv (.int (Int8.ofInt n).toInt32 :: st) h nc ns
  | .sipush n => X (pc + 3) lv (.int (Int16.ofInt n).toInt32 :: st) h nc ns
  | .lconst n => X (pc + 1) lv (.long (Int64.ofNat (n : Nat)) :: st) h nc ns
  | .aconst_null => X (pc + 1) lv (.null :: st) h nc ns
  | .ldc2_w _ => X (pc + 3) lv (.long (pg_long k pc) :: st) h nc ns
  | .iload n => am_li lv n fun a => X (pc + 2) lv (.int a :: st) h nc ns
  | .iload_n n => am_li lv n fun a => X (pc + 1) lv (.int a :: st) h nc ns
  | .lload n => am_ll lv n fun a => X (pc + 2) lv (.long a :: st) h nc ns
  | .lload_n n => am_ll lv n fun a => X (pc + 1) lv (.long a :: st) h nc ns
  | .aload n => am_la lv n fun v => X (pc + 2) lv (v :: st) h nc ns
  | .aload_n n => am_la lv n fun v => X (pc + 1) lv (v :: st) h nc ns
  | .istore n => am_si st fun a r => n < pg_max k ∧ X (pc + 2) (am_st1 lv n (.int a)) r h nc ns
  | .istore_n n => am_si st fun a r => (n : Nat) < pg_max k ∧ X (pc + 1) (am_st1 lv n (.int a)) r h nc ns
  | .lstore n => am_sl st fun a r => n + 1 < pg_max k ∧ X (pc + 2) (am_st2 lv n (.long a)) r h nc ns
  | .lstore_n n => am_sl st fun a r => (n : Nat) + 1 < pg_max k ∧ X (pc + 1) (am_st2 lv n (.long a)) r h nc ns
  | .astore n => am_sa st fun v r => n < pg_max k ∧ X (pc + 2) (am_st1 lv n v) r h nc ns
  | .astore_n n => am_sa st fun v r => (n : Nat) < pg_max k ∧ X (pc + 1) (am_st1 lv n v) r h nc ns
  | .iinc n d => am_li lv n fun a => n < pg_max k ∧ X (pc + 3) (am_st1 lv n (.int (a + Int32.ofInt d))) st h nc ns
  | .iadd => am_ii st fun a b r => X (pc + 1) lv (.int (a + b) :: r) h nc ns
  | .isub => am_ii st fun a b r => X (pc + 1) lv (.int (a - b) :: r) h nc ns
  | .imul => am_ii st fun a b r => X (pc + 1) lv (.int (a * b) :: r) h nc ns
  | .iand => am_ii st fun a b r => X (pc + 1) lv (.int (a &&& b) :: r) h nc ns
  | .ior => am_ii st fun a b r => X (pc + 1) lv (.int (a ||| b) :: r) h nc ns
  | .ixor => am_ii st fun a b r => X (pc + 1) lv (.int (a ^^^ b) :: r) h nc ns
  | .idiv => am_ii st fun a b r => ¬ b = 0 ∧ X (pc + 1) lv (.int (a / b) :: r) h nc ns
  | .irem => am_ii st fun a b r => ¬ b = 0 ∧ X (pc + 1) lv (.int (a - a / b * b) :: r) h nc ns
  | .ineg => am_si st fun a r => X (pc + 1) lv (.int (-a) :: r) h nc ns
  | .ladd => am_lll st fun a b r => X (pc + 1) lv (.long (a + b) :: r) h nc ns
  | .lsub => am_lll st fun a b r => X (pc + 1) lv (.long (a - b) :: r) h nc ns
  | .lmul => am_lll st fun a b r => X (pc + 1) lv (.long (a * b) :: r) h nc ns
  | .land => am_lll st fun a b r => X (pc + 1) lv (.long (a &&& b) :: r) h nc ns
  | .lor => am_lll st fun a b r => X (pc + 1) lv (.long (a ||| b) :: r) h nc ns
  | .ldiv => am_lll st fun a b r => ¬ b = 0 ∧ X (pc + 1) lv (.long (a / b) :: r) h nc ns
  | .lshl => am_lsh st fun a b r => X (pc + 1) lv (.long (a <<< (b.toInt64 &&& 63)) :: r) h nc ns
  | .i2l => am_si st fun a r => X (pc + 1) lv (.long a.toInt64 :: r) h nc ns
  | .lcmp => am_lll st fun a b r => X (pc + 1) lv (.int (lg_cmp a b) :: r) h nc ns
  | .dup => am_sv st fun v r => v.category = 1 ∧ X (pc + 1) lv (v :: v :: r) h nc ns
  | .pop => am_sv st fun v r => v.category = 1 ∧ X (pc + 1) lv r h nc ns
  | .dup_x1 => am_sv st fun v r => am_sv r fun w r => v.category = 1 ∧ w.category = 1 ∧ X (pc + 1) lv (v :: w :: v :: r) h nc ns
  | .dup2 => am_sv st fun v r => am_sv r fun w r => v.category = 1 ∧ w.category = 1 ∧ X (pc + 1) lv (v :: w :: v :: w :: r) h nc ns
  | .ifCond c _ => am_si st fun a r => am_br (am_cmp c a 0) (X x lv r h nc ns) (X (pc + 3) lv r h nc ns)
  | .if_icmp c _ => am_ii st fun a b r => am_br (am_cmp c a b) (X x lv r h nc ns) (X (pc + 3) lv r h nc ns)
  | .goto _ => X x lv st h nc ns
  | .tableswitch dflt lo hi offs => am_si st fun a r => X (am_tsw dflt lo hi offs pc a) lv r h nc ns
  | .getfield _ => am_sr st fun a r => am_ob h a x fun fs => am_opt fs[y]? fun v => X (pc + 3) lv (v :: r) h nc ns
  | .putfield _ => am_sv st fun v r => am_sr r fun a r => am_ob h a x fun fs => (y < fs.length ∧ narrow (pg_ty x y) v = v ∧ fits (pg_ty x y) v = true) ∧ X (pc + 3) lv r (am_set h a (.inr (x, fs.set y v))) nc ns
  | .iaload => if x = 1 then am_ia st fun a j r => (a = G.1 ∧ vp_in j G.2.1) ∧ X (pc + 1) lv (.int (G.2.2 j.toNatClampNeg) :: r) h nc ns
    else am_ia st fun a j r => am_ai h a .int fun n f => vp_in j n ∧ X (pc + 1) lv (.int (f j.toNatClampNeg) :: r) h nc ns
  | .baload => am_ia st fun a j r => am_ai h a .boolean fun n f => vp_in j n ∧ X (pc + 1) lv (.int (f j.toNatClampNeg) :: r) h nc ns
  | .laload => am_ia st fun a j r => am_al h a fun n f => vp_in j n ∧ X (pc + 1) lv (.long (f j.toNatClampNeg) :: r) h nc ns
  | .aaload => am_ia st fun a j r => am_aa h a fun _ n f => vp_in j n ∧ X (pc + 1) lv (va_rf (f j.toNatClampNeg) :: r) h nc ns
  | .iastore => am_via st fun a j v r => am_ai h a .int fun n f => am_si [v] fun b _ => vp_in j n ∧ X (pc + 1) lv r (am_set h a (.inl (.int, n, .inl (upd f j.toNatClampNeg b)))) nc ns
  | .bastore => am_via st fun a j v r => am_ai h a .boolean fun n f => am_si [v] fun b _ => vp_in j n ∧ X (pc + 1) lv r (am_set h a (.inl (.boolean, n, .inl (upd f j.toNatClampNeg (vp_nar .boolean b))))) nc ns
  | .lastore => am_via st fun a j v r => am_al h a fun n f => am_sl [v] fun b _ => vp_in j n ∧ X (pc + 1) lv r (am_set h a (.inl (.long, n, .inr (.inl (vp_updL f j.toNatClampNeg b))))) nc ns
  | .aastore => am_via st fun a j v r => am_aa h a fun C n f => am_sr [v] fun b _ => am_ob h b x fun _ => (pg_cname x = C ∧ vp_in j n) ∧ X (pc + 1) lv r (am_set h a (.inl (.object C, n, .inr (.inr (.inr (.inr (va_up f j.toNatClampNeg (some b)))))))) nc ns
  | .arraylength => if x = 1 then am_sr st fun a r => a = G.1 ∧ X (pc + 1) lv (.int (Int32.ofNat G.2.1) :: r) h nc ns
    else am_sr st fun a r => am_an h a fun n => X (pc + 1) lv (.int (Int32.ofNat n) :: r) h nc ns
  | .new _ => am_new k K X x pc lv st h nc ns
  | .newarray t => am_si st fun n r => am_newa k X t pc lv n r h nc ns
  | .anewarray _ => am_si st fun n r => am_newq k X x pc lv n r h nc ns
  | .invokevirtual _ => am_inv C k K X x y pc lv st h nc ns
  | .invokespecial _ => am_inv C k K X x y pc lv st h nc ns
  | .invokestatic _ => am_inv C k K X x y pc lv st h nc ns
  | .ireturn => am_si st fun a r => (r = [] ∧ (∃ ty, pg_ret k = some ty ∧ narrow ty (.int a) = .int a)) ∧ K (.inl (some (.int a))) h
  | .lreturn => am_sl st fun a r => (r = [] ∧ pg_ret k = some .long) ∧ K (.inl (some (.long a))) h
  | .areturn => am_sa st fun v r => (r = [] ∧ ∃ C, pg_ret k = some (.object C)) ∧ K (.inl (some v)) h
  | .return_ => (st = [] ∧ pg_ret k = none) ∧ K (.inl none) h
  | _ => False
def am_step (G : am_G) (C : am_C) (k : Nat) (K : am_K) (X : am_X) (pc : Nat) (lv : am_L) (st : List Value) (h : am_H) (nc ns : Nat) : Prop := match pg_code k pc with
  | some (i, _, x, y) => am_ins G C k K X i x y pc lv st h nc ns
  | none => False
/-- from this state the frame ends, and its end satisfies K -/
def am_W (G : am_G) (C : am_C) (k : Nat) (K : am_K) (pc : Nat) (lv : am_L) (st : List Value) (h : am_H) (nc ns : Nat) : Prop :=
  ∀ X : am_X, (∀ pc lv st h nc ns, am_step G C k K X pc lv st h nc ns → X pc lv st h nc ns) → X pc lv st h nc ns
def am_lay (vs : List Value) : am_L := vs.flatMap fun v => if v.category = 2 then [some v, none] else [some v]
def am_ent (k : Nat) (vs : List Value) : am_L := am_lay vs ++ List.replicate (pg_max k - (am_lay vs).length) none
/-- a method's own weakest precondition, its calls at most d deep -/
def am_M (G : am_G) : Nat → am_C
  | 0 => fun _ _ _ _ => False
  | d + 1 => fun k vs h K => ((am_lay vs).length ≤ pg_max k ∧ pg_lev k ≤ d + 1) ∧ am_W G (am_M G d) k K 0 (am_ent k vs) [] h 0 0
def pg_ws : List Cond := lw_tbl.filter goodWord
theorem am_word {i : Nat} {w : Cond} (h : lw_tbl[i]? = some w) (g : goodWord w = true) : w ∈ pg_ws := List.mem_filter.mpr ⟨List.mem_of_getElem? h, g⟩
def pg_over : List String := ["SheetNeeds$Sheet", "SheetNeeds$Copy"]
