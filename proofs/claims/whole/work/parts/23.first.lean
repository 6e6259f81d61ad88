-- the machine's equation, and first-order words for its steps (so that simp can walk)
theorem am_W.unf {G : am_G} {C : am_C} {k : Nat} {K : am_K} (hC : am_mono C) {pc : Nat} {lv : am_L} {st : List Value} {h : am_H} {nc ns : Nat} (q : am_W G C k K pc lv st h nc ns) : am_step G C k K (am_W G C k K) pc lv st h nc ns :=
  q (fun pc lv st h nc ns => am_step G C k K (am_W G C k K) pc lv st h nc ns) (fun _ _ _ _ _ _ t => am_step.mono hC (fun _ _ _ _ _ _ a => am_W.fold hC a) (fun _ _ a => a) t)
theorem am_u {G : am_G} {d k : Nat} {K : am_K} {pc : Nat} {lv : am_L} {st : List Value} {h : am_H} {nc ns : Nat} {i : Instr} {len x y : Nat} (e : pg_code k pc = some (i, len, x, y)) :
    am_W G (am_M G d) k K pc lv st h nc ns = am_ins G (am_M G d) k K (am_W G (am_M G d) k K) i x y pc lv st h nc ns := by
  apply propext
  constructor
  · intro q
    have q := am_W.unf (am_M.mono G d) q
    unfold am_step at q
    rw [e] at q
    exact q
  · intro q
    refine am_W.fold (am_M.mono G d) ?_
    unfold am_step
    rw [e]
    exact q
section First
variable (G : am_G) (d k : Nat) (K : am_K) (pc : Nat) (lv : am_L) (st : List Value) (h : am_H) (nc ns : Nat)
def f_gv (o : Option Value) : Prop := am_opt o fun v => am_W G (am_M G d) k K pc lv (v :: st) h nc ns
def f_gf (o : Option am_E) (x y : Nat) : Prop := am_ob (fun _ => o) 0 x fun fs => f_gv G d k K pc lv st h nc ns fs[y]?
def f_pf (o : Option am_E) (x y a : Nat) (v : Value) : Prop := am_ob (fun _ => o) 0 x fun fs => y < fs.length ∧ am_W G (am_M G d) k K pc lv st (am_set h a (.inr (x, fs.set y v))) nc ns
def f_ia (o : Option am_E) (ty : FieldType) (j : Int32) : Prop := am_ai (fun _ => o) 0 ty fun n f => vp_in j n ∧ am_W G (am_M G d) k K pc lv (.int (f j.toNatClampNeg) :: st) h nc ns
def f_la (o : Option am_E) (j : Int32) : Prop := am_al (fun _ => o) 0 fun n f => vp_in j n ∧ am_W G (am_M G d) k K pc lv (.long (f j.toNatClampNeg) :: st) h nc ns
def f_aa (o : Option am_E) (j : Int32) : Prop := am_aa (fun _ => o) 0 fun _ n f => vp_in j n ∧ am_W G (am_M G d) k K pc lv (va_rf (f j.toNatClampNeg) :: st) h nc ns
def f_is (o : Option am_E) (ty : FieldType) (a : Nat) (j b : Int32) : Prop := am_ai (fun _ => o) 0 ty fun n f => vp_in j n ∧ am_W G (am_M G d) k K pc lv st (am_set h a (.inl (ty, n, .inl (upd f j.toNatClampNeg b)))) nc ns
def f_ls (o : Option am_E) (a : Nat) (j : Int32) (b : Int64) : Prop := am_al (fun _ => o) 0 fun n f => vp_in j n ∧ am_W G (am_M G d) k K pc lv st (am_set h a (.inl (.long, n, .inr (.inl (vp_updL f j.toNatClampNeg b))))) nc ns
def f_rc (o : Option am_E) (x : Nat) : Prop := am_ob (fun _ => o) 0 x fun _ => True
def f_cp (a0 a1 : Nat) (sp dp n : Int32) : Prop := am_copy h a0 sp a1 dp n fun h' => am_W G (am_M G d) k K pc lv st h' nc ns
end First
theorem f_set (h : am_H) (a b : Nat) (e : am_E) : am_set h a e b = if b = a then some e else h b := rfl
theorem f_set_same (h : am_H) (a : Nat) (e : am_E) : am_set h a e a = some e := by unfold am_set; rw [if_pos rfl]
theorem f_set_ne (h : am_H) {a b : Nat} (e : am_E) (hn : b ≠ a) : am_set h a e b = h b := by unfold am_set; rw [if_neg hn]
section FirstEq
variable {G : am_G} {d k : Nat} {K : am_K} {pc : Nat} {lv : am_L} {st : List Value} {h : am_H} {nc ns : Nat}
theorem f_gf_some {x y : Nat} {fs : List Value} : f_gf G d k K pc lv st h nc ns (some (.inr (x, fs))) x y = f_gv G d k K pc lv st h nc ns fs[y]? := by
  simp only [f_gf, am_ob, am_ai, am_al, true_and]
theorem f_gv_some {v : Value} : f_gv G d k K pc lv st h nc ns (some v) = am_W G (am_M G d) k K pc lv (v :: st) h nc ns := rfl
theorem f_pf_some {x y a : Nat} {v : Value} {fs : List Value} : f_pf G d k K pc lv st h nc ns (some (.inr (x, fs))) x y a v = (y < fs.length ∧ am_W G (am_M G d) k K pc lv st (am_set h a (.inr (x, fs.set y v))) nc ns) := by
  simp only [f_pf, am_ob, am_ai, am_al, true_and]
theorem f_ia_some {ty : FieldType} {j : Int32} {n : Nat} {f : Nat → Int32} : f_ia G d k K pc lv st h nc ns (some (.inl (ty, n, .inl f))) ty j = (vp_in j n ∧ am_W G (am_M G d) k K pc lv (.int (f j.toNatClampNeg) :: st) h nc ns) := by
  simp only [f_ia, am_ob, am_ai, am_al, true_and]
theorem f_la_some {j : Int32} {n : Nat} {f : Nat → Int64} : f_la G d k K pc lv st h nc ns (some (.inl (.long, n, .inr (.inl f)))) j = (vp_in j n ∧ am_W G (am_M G d) k K pc lv (.long (f j.toNatClampNeg) :: st) h nc ns) := by
  simp only [f_la, am_ob, am_ai, am_al, true_and]
theorem f_aa_some {C : String} {j : Int32} {n : Nat} {f : Nat → Option Nat} : f_aa G d k K pc lv st h nc ns (some (.inl (.object C, n, .inr (.inr (.inr (.inr f)))))) j = (vp_in j n ∧ am_W G (am_M G d) k K pc lv (va_rf (f j.toNatClampNeg) :: st) h nc ns) := rfl
theorem f_is_some {ty : FieldType} {a : Nat} {j b : Int32} {n : Nat} {f : Nat → Int32} : f_is G d k K pc lv st h nc ns (some (.inl (ty, n, .inl f))) ty a j b = (vp_in j n ∧ am_W G (am_M G d) k K pc lv st (am_set h a (.inl (ty, n, .inl (upd f j.toNatClampNeg b)))) nc ns) := by
  simp only [f_is, am_ob, am_ai, am_al, true_and]
theorem f_ls_some {a : Nat} {j : Int32} {b : Int64} {n : Nat} {f : Nat → Int64} : f_ls G d k K pc lv st h nc ns (some (.inl (.long, n, .inr (.inl f)))) a j b = (vp_in j n ∧ am_W G (am_M G d) k K pc lv st (am_set h a (.inl (.long, n, .inr (.inl (vp_updL f j.toNatClampNeg b))))) nc ns) := by
  simp only [f_ls, am_ob, am_ai, am_al, true_and]
theorem f_rc_some {x : Nat} {fs : List Value} : f_rc (some (.inr (x, fs))) x = True := by
  simp only [f_rc, am_ob, true_and]
end FirstEq
theorem f_at0 {α : Type} (a : α) (l : List α) : (a :: l)[0]? = some a := rfl
theorem f_atS {α : Type} (a : α) (l : List α) (n : Nat) : (a :: l)[n + 1]? = l[n]? := rfl
theorem f_cp_i {G : am_G} {d k : Nat} {K : am_K} {pc : Nat} {lv : am_L} {st : List Value} {h : am_H} {nc ns a0 a1 : Nat} {sp dp n : Int32} {ty : FieldType} {n0 n1 : Nat} {f g : Nat → Int32} (h0 : h a0 = some (.inl (ty, n0, .inl f))) (h1 : h a1 = some (.inl (ty, n1, .inl g))) :
    f_cp G d k K pc lv st h nc ns a0 a1 sp dp n = ((ty = ty ∧ refKind ty = false ∧ ¬ sp < 0 ∧ ¬ dp < 0 ∧ ¬ n < 0 ∧ sp.toNatClampNeg + n.toNatClampNeg ≤ n0 ∧ dp.toNatClampNeg + n.toNatClampNeg ≤ n1 ∧ ∀ i, i < n.toNatClampNeg → fits ty (.int (f (sp.toNatClampNeg + i))) = true) ∧ am_W G (am_M G d) k K pc lv st (am_set h a1 (.inl (ty, n1, .inl (va_cpy f g sp.toNatClampNeg dp.toNatClampNeg n.toNatClampNeg)))) nc ns) := by
  unfold f_cp am_copy
  rw [h0, h1]
theorem f_cp_l {G : am_G} {d k : Nat} {K : am_K} {pc : Nat} {lv : am_L} {st : List Value} {h : am_H} {nc ns a0 a1 : Nat} {sp dp n : Int32} {n0 n1 : Nat} {f g : Nat → Int64} (h0 : h a0 = some (.inl (.long, n0, .inr (.inl f)))) (h1 : h a1 = some (.inl (.long, n1, .inr (.inl g)))) :
    f_cp G d k K pc lv st h nc ns a0 a1 sp dp n = ((FieldType.long = .long ∧ FieldType.long = .long ∧ ¬ sp < 0 ∧ ¬ dp < 0 ∧ ¬ n < 0 ∧ sp.toNatClampNeg + n.toNatClampNeg ≤ n0 ∧ dp.toNatClampNeg + n.toNatClampNeg ≤ n1) ∧ am_W G (am_M G d) k K pc lv st (am_set h a1 (.inl (.long, n1, .inr (.inl (va_cpy f g sp.toNatClampNeg dp.toNatClampNeg n.toNatClampNeg))))) nc ns) := by
  unfold f_cp am_copy
  rw [h0, h1]
