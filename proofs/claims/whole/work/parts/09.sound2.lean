-- instructions that read and write the heap
/-- what the tables must say of a class -/
def am_clsok (ci : Nat) (C : String) (T : u_T) (N : Nat) : Prop :=
  (∀ w ∈ u_ws C T N, w ∈ pg_ws) ∧ (∀ j, j < N → parseFieldDescriptor (T j).2.2.1 = some (pg_ty ci j)) ∧ (∀ a, a < N → ∀ b, b < N → a ≠ b → (T a).2.1 ≠ (T b).2.1) ∧ N = pg_nf ci ∧ C = pg_cname ci ∧ Cond.instantiable C N ∈ pg_ws ∧ Cond.initialized C ∈ pg_ws
def am_clsall : Prop := ∀ (ci : Nat) (q : vw_C), pg_classes[ci]? = some q → am_clsok ci q.1 q.2.1 q.2.2
/-- a field's link, and its right to be written -/
def am_okf (k idx x y : Nat) : Prop := ∃ q : vw_C, pg_classes[x]? = some q ∧ y < q.2.2 ∧ Cond.fieldLink (pg_own k) idx (q.2.1 y).1 (q.2.1 y).2.1 (q.2.1 y).2.2.1 ∈ pg_ws
def am_okw (k x y : Nat) : Prop := ∀ q : vw_C, pg_classes[x]? = some q → ((q.2.1 y).2.2.2 = false ∨ ((q.2.1 y).2.2.2 = true ∧ pg_isI k = true ∧ (q.2.1 y).1 = pg_own k))
def am_atype (t : ArrayType) : Prop := Cond.arrayClass (newarray.typeOf t) ∈ pg_ws
def am_ok2 (k : Nat) (i : Instr) (x y : Nat) : Prop := match i with
  | .getfield idx => am_okf k idx x y
  | .putfield idx => am_okf k idx x y ∧ am_okw k x y
  | .new idx => x < 500 ∧ ∃ q : vw_C, pg_classes[x]? = some q ∧ Cond.classLink (pg_own k) idx q.1 ∈ pg_ws
  | .newarray t => am_atype t
  | .anewarray idx => Cond.classLink (pg_own k) idx (pg_cname x) ∈ pg_ws ∧ pg_cname x ∈ pg_over
  | .aastore => ∃ q : vw_C, pg_classes[x]? = some q
  | _ => True
def am_heap : Instr → Bool
  | .getfield _ | .putfield _ | .new _ | .newarray _ | .anewarray _ | .iaload | .baload | .laload | .aaload | .iastore | .bastore | .lastore | .aastore | .arraylength => true
  | _ => false
section Sound2
variable {B : Nat} {D : va_G} {G : am_G} {k : Nat} {p : Program} {l : Launch} {e : Env} {R : Room} {s : State} {m : MethodId} {args : Array Value} {below : List Frame} {meth : Method} {c : Code} {Q : State → Prop} {C : am_C} {K : am_K}
variable {x y pc : Nat} {lv : am_L} {st : List Value} {h : am_H} {nc ns : Nat}
set_option maxHeartbeats 8000000 in
theorem am_sound2 (hcls : am_clsall) (hx : p.tables.exec = Jvm.exec) (hb : c.code = pg_bytes k) (hown : s.vm.findClass (pg_own k) = some m.cls) (hts : ∀ w ∈ pg_ws, w.before args s = true) (hin : pg_isI k = true → meth.name = "<init>")
    (hB : B ≤ s.heap.size) (hX : va_X G.1 G.2.1 G.2.2 s s.heap) (hGB : G.1 < B) (hov : ∀ C ∈ pg_over, va_AO C s) (hrc : R.cells = pg_mc k) (hrs : R.slots = pg_ms k)
    {i : Instr} {len : Nat} (hi : am_heap i = true) (hd : decode (pg_bytes k) pc = .ok (i, len)) (hn : am_ilen i = len) (ho : am_ok2 k i x y) (q : am_ins G C k K (am_V B D k p l e R s m args below meth c Q) i x y pc lv st h nc ns) : am_V B D k p l e R s m args below meth c Q pc lv st h nc ns := by
  intro ls H locs hl hS hv h1 h2
  have hA : ∀ a : Nat, s.heap.size ≤ a → am_A B a := fun a z => Nat.le_trans hB z
  have hbl : G.1 < s.heap.size := Nat.lt_of_lt_of_le hGB hB
  have hbA : ¬ am_A B G.1 := Nat.not_le.mpr hGB
  obtain ⟨ws, tys, hR, hP, hD, hK⟩ := id hS
  cases i <;> first | (cases hi; done) | skip
  all_goals subst hn
  all_goals simp only [am_ins] at q
  case getfield idx =>
    obtain ⟨a, r, rfl, u1⟩ := q.out
    obtain ⟨fs, ha, u2⟩ := u1.out
    obtain ⟨v, hv9, u3⟩ := u2.out
    obtain ⟨⟨C9, T9, N9⟩, hc, hy, hlink⟩ := ho
    obtain ⟨q0, hq0⟩ := hR a _ ha
    exact va_get hx hb hts (hcls x _ hc).1 hown hK hP q0 hq0 hc y hy (hts _ hlink) (fun _ z => z) hv9 hd (u3 ls H locs hl hS hv h1 h2)
  case putfield idx =>
    obtain ⟨v, r, rfl, u1⟩ := q.out
    obtain ⟨a, r, rfl, u2⟩ := u1.out
    obtain ⟨fs, ha, ⟨hy2, hn1, hf1⟩, u3⟩ := u2.out
    obtain ⟨⟨⟨C9, T9, N9⟩, hc, hy, hlink⟩, hw⟩ := ho
    obtain ⟨q0, hq0⟩ := hR a _ ha
    obtain ⟨c1, c2, c3, c4, -⟩ := hcls x _ hc
    rcases hw _ hc with hw | ⟨hw, hi9, hd9⟩
    · exact va_put hx hb hts c1 (pg_ty x) c2 c3 hown hK hP hD hv q0 hq0 hc y hy (hts _ hlink) (fun _ z => z) hw (c2 y hy) hn1 hf1 hy2 hd (fun H1 locs1 hP1 hD1 hS1 => u3 ls H1 locs1 hl ⟨_, tys, hR.setO hq0, hP1, hD1, hK⟩ hS1 h1 h2)
    · exact va_putF hx hb hts c1 (pg_ty x) c2 c3 hown hK hP hD hv q0 hq0 hc y hy (hts _ hlink) (fun _ z => z) hw (hin hi9) hd9 (c2 y hy) hn1 hf1 hy2 hd (fun H1 locs1 hP1 hD1 hS1 => u3 ls H1 locs1 hl ⟨_, tys, hR.setO hq0, hP1, hD1, hK⟩ hS1 h1 h2)
  case new idx =>
    obtain ⟨hx5, ⟨C9, T9, N9⟩, hc, hlink⟩ := ho
    unfold am_new at q
    rw [if_pos hx5] at q
    obtain ⟨⟨b1, b2⟩, u1⟩ := q
    obtain ⟨c1, c2, c3, c4, c5, c6, c7⟩ := hcls x _ hc
    dsimp only at c1 c2 c3 c4 c5 c6 c7
    subst c4
    refine va_new (ci := x) (fs := (List.range (pg_nf x)).map (fun j => defaultValue (pg_ty x j))) hx hb hts c1 (pg_ty x) c2 hown (hts _ hlink) (hts _ c6) (hts _ c7) hK hP hD hv hA hc ?_ (by rw [hrc]; exact b1) (by rw [hrs]; exact b2) hd (fun q9 H1 hP1 hD1 hS1 => u1 q9 (hR.fresh hD1) ls H1 locs hl ⟨_, tys, hR.pushO, hP1, hD1, hK⟩ hS1 b1 b2)
    intro j hj
    unfold vp_V
    rw [List.getD_eq_getElem?_getD, List.getElem?_map, List.getElem?_range hj]
    rfl
  case newarray t =>
    obtain ⟨n, r, rfl, u1⟩ := q.out
    obtain ⟨⟨n1, n2, n3, n4⟩, u2⟩ := u1
    obtain ⟨e0, he, u3⟩ := u2.out
    have hz : (∀ cA : ClassId, vp_cell cA e0.2 = arrV cA n.toNatClampNeg (fun _ => defaultValue (newarray.typeOf t))) ∧ e0.1 = newarray.typeOf t ∧ n.toNatClampNeg * componentBytes (newarray.typeOf t) ≤ 536870912 := by
      cases t <;> simp only [am_zero] at he <;> first | (cases he; done) | skip
      · cases he; exact ⟨fun cA => rfl, rfl, by simp only [newarray.typeOf, componentBytes]; omega⟩
      · cases he; exact ⟨fun cA => rfl, rfl, by simp only [newarray.typeOf, componentBytes]; omega⟩
      · cases he; exact ⟨fun cA => rfl, rfl, by simp only [newarray.typeOf, componentBytes]; omega⟩
    obtain ⟨z1, z2, z3⟩ := hz
    obtain ⟨ty0, a0⟩ := e0
    dsimp only at z1 z2
    exact va_newa hx hb (hts _ ho) z2.symm hK hP hD hv hA (a0 := a0) (by rw [z2]; exact z1) n1 rfl (by rw [z2]; exact z3) (by rw [hrc]; exact n3) (by rw [hrs]; exact n4) hd (fun q9 cA H1 hK1 hP1 hD1 hS1 => u3 q9 (hR.fresh hD1) ls H1 locs hl ⟨_, _, hR.pushA, hP1, hD1, hK1⟩ hS1 n3 n4)
  case anewarray idx =>
    obtain ⟨n, r, rfl, u1⟩ := q.out
    obtain ⟨⟨n1, n2, n3, n4⟩, u2⟩ := u1
    exact va_newq hx hb hown (hts _ ho.1) (hov _ ho.2) hK hP hD hv hA n1 rfl (by omega) (by rw [hrc]; exact n3) (by rw [hrs]; exact n4) hd (fun q9 cA H1 hK1 hP1 hD1 hS1 => u2 q9 (hR.fresh hD1) ls H1 locs hl ⟨_, _, hR.pushA, hP1, hD1, hK1⟩ hS1 n3 n4)
  case iaload =>
    split at q
    · obtain ⟨a, j, r, rfl, ⟨rfl, hj⟩, u1⟩ := q.out
      exact va_sld hx hb hX hbl hbA hv hj hd (u1 ls H locs hl hS hv h1 h2)
    · obtain ⟨a, j, r, rfl, u2⟩ := q.out
      obtain ⟨n, f, ha, hj, u3⟩ := u2.out
      obtain ⟨q0, t0, cA, hq0, ht0⟩ := hR a _ ha
      exact va_iald hx hb hK hP q0 t0 hq0 ht0 hj hd (u3 ls H locs hl hS hv h1 h2)
  case baload =>
    obtain ⟨a, j, r, rfl, u1⟩ := q.out
    obtain ⟨n, f, ha, hj, u2⟩ := u1.out
    obtain ⟨q0, t0, cA, hq0, ht0⟩ := hR a _ ha
    exact va_zald hx hb hK hP q0 t0 hq0 ht0 hj hd (u2 ls H locs hl hS hv h1 h2)
  case laload =>
    obtain ⟨a, j, r, rfl, u1⟩ := q.out
    obtain ⟨n, f, ha, hj, u2⟩ := u1.out
    obtain ⟨q0, t0, cA, hq0, ht0⟩ := hR a _ ha
    exact va_lald hx hb hK hP q0 t0 hq0 ht0 hj hd (u2 ls H locs hl hS hv h1 h2)
  case aaload =>
    obtain ⟨a, j, r, rfl, u1⟩ := q.out
    obtain ⟨C9, n, f, ha, hj, u2⟩ := u1.out
    obtain ⟨q0, t0, cA, hq0, ht0⟩ := hR a _ ha
    exact va_aldq hx hb hK hP q0 t0 hq0 ht0 hj hd (u2 ls H locs hl hS hv h1 h2)
  case iastore =>
    obtain ⟨a, j, v, r, rfl, u1⟩ := q.out
    obtain ⟨n, f, ha, u2⟩ := u1.out
    obtain ⟨b, r9, hb9, hj, u3⟩ := u2.out
    cases hb9
    obtain ⟨q0, t0, cA, hq0, ht0⟩ := hR a _ ha
    exact va_iast hx hb hK hP hD hv q0 t0 hq0 ht0 hj hd (fun H1 locs1 hP1 hD1 hS1 => u3 ls H1 locs1 hl ⟨_, tys, hR.setA hq0 ht0, hP1, hD1, hK⟩ hS1 h1 h2)
  case bastore =>
    obtain ⟨a, j, v, r, rfl, u1⟩ := q.out
    obtain ⟨n, f, ha, u2⟩ := u1.out
    obtain ⟨b, r9, hb9, hj, u3⟩ := u2.out
    cases hb9
    obtain ⟨q0, t0, cA, hq0, ht0⟩ := hR a _ ha
    exact va_zast hx hb hK hP hD hv q0 t0 hq0 ht0 hj hd (fun H1 locs1 hP1 hD1 hS1 => u3 ls H1 locs1 hl ⟨_, tys, hR.setA hq0 ht0, hP1, hD1, hK⟩ hS1 h1 h2)
  case lastore =>
    obtain ⟨a, j, v, r, rfl, u1⟩ := q.out
    obtain ⟨n, f, ha, u2⟩ := u1.out
    obtain ⟨b, r9, hb9, hj, u3⟩ := u2.out
    cases hb9
    obtain ⟨q0, t0, cA, hq0, ht0⟩ := hR a _ ha
    exact va_last hx hb hK hP hD hv q0 t0 hq0 ht0 hj hd (fun H1 locs1 hP1 hD1 hS1 => u3 ls H1 locs1 hl ⟨_, tys, hR.setA hq0 ht0, hP1, hD1, hK⟩ hS1 h1 h2)
  case aastore =>
    obtain ⟨a, j, v, r, rfl, u1⟩ := q.out
    obtain ⟨C9, n, f, ha, u2⟩ := u1.out
    obtain ⟨b, r9, hb9, u3⟩ := u2.out
    cases hb9
    obtain ⟨fs, hfs, ⟨hC9, hj⟩, u4⟩ := u3.out
    obtain ⟨⟨C8, T8, N8⟩, hc⟩ := ho
    obtain ⟨-, -, -, -, c5, -⟩ := hcls x _ hc
    dsimp only at c5
    obtain ⟨q0, t0, cA, hq0, ht0⟩ := hR a _ ha
    obtain ⟨q1, hq1⟩ := hR b _ hfs
    have ht1 : tys[t0]? = some (cA, .object C8) := by rw [ht0, c5, hC9]
    exact va_astq hx hb hK hP hD hv q0 t0 q1 x hq0 ht1 hq1 hc hj hd (fun H1 locs1 hP1 hD1 hS1 => u4 ls H1 locs1 hl ⟨_, tys, hR.setA hq0 ht0, hP1, hD1, hK⟩ hS1 h1 h2)
  case arraylength =>
    split at q
    · obtain ⟨a, r, rfl, rfl, u1⟩ := q.out
      exact va_slen hx hb hX hbl hbA hv hd (u1 ls H locs hl hS hv h1 h2)
    · obtain ⟨a, r, rfl, u2⟩ := q.out
      obtain ⟨t, n, x9, ha, u3⟩ := u2.out
      obtain ⟨q0, t0, cA, hq0, ht0⟩ := hR a _ ha
      exact va_alen hx hb hK hP q0 t0 hq0 ht0 rfl hd (u3 ls H locs hl hS hv h1 h2)
end Sound2
