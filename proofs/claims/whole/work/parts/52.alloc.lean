-- new objects and arrays: the k-th place gets its address
def AI (ad : Nat → Nat) (h : am_H) (k : Nat) : Prop := am_inj ad ∧ (∀ p, p < k → ¬ h (ad p) = none) ∧ ∀ p, k ≤ p → h (ad p) = none
theorem AI.new {ad : Nat → Nat} {h : am_H} {k q : Nat} {e : am_E} (hA : AI ad h k) (hq : h q = none) : ∃ ad', ad' k = q ∧ AI ad' (am_set h q e) (k + 1) ∧ ∀ p, p < k → ad' p = ad p := by
  obtain ⟨h1, h2, h3⟩ := hA
  have hne : ∀ p, p < k → ad p ≠ q := fun p hp c => h2 p hp (by rw [c]; exact hq)
  have inj : ∀ i j, ad i = ad j → i = j := fun i j c => by have := h1 i j; rw [← this]; exact c
  refine ⟨fun p => if p = k then q else if ad p = q then ad k else ad p, if_pos rfl, ⟨fun i j => propext ⟨fun c => ?_, fun c => by rw [c]⟩, fun p hp => ?_, fun p hp => ?_⟩, fun p hp => ?_⟩
  · dsimp only at c
    by_cases a : i = k
    · by_cases b : j = k
      · rw [a, b]
      · rw [if_pos a, if_neg b] at c
        by_cases e2 : ad j = q
        · rw [if_pos e2] at c
          exact absurd (inj j k (by rw [e2, c])) b
        · rw [if_neg e2] at c; exact absurd c.symm e2
    · by_cases b : j = k
      · rw [if_neg a, if_pos b] at c
        by_cases e2 : ad i = q
        · rw [if_pos e2] at c
          exact absurd (inj i k (by rw [e2, ← c])) a
        · rw [if_neg e2] at c; exact absurd c e2
      · rw [if_neg a, if_neg b] at c
        by_cases e2 : ad i = q
        · by_cases e3 : ad j = q
          · exact inj i j (by rw [e2, e3])
          · rw [if_pos e2, if_neg e3] at c; exact absurd (inj k j c).symm b
        · by_cases e3 : ad j = q
          · rw [if_neg e2, if_pos e3] at c; exact absurd (inj i k c) a
          · rw [if_neg e2, if_neg e3] at c; exact inj i j c
  · dsimp only
    unfold am_set
    by_cases a : p = k
    · rw [if_pos a, if_pos rfl]; exact fun c => by cases c
    · rw [if_neg a, if_neg (hne p (by omega)), if_neg (hne p (by omega))]; exact h2 p (by omega)
  · dsimp only
    have a : p ≠ k := by omega
    rw [if_neg a]
    unfold am_set
    by_cases e2 : ad p = q
    · rw [if_pos e2]
      have : ad k ≠ q := fun c => a (inj p k (by rw [e2, c]))
      rw [if_neg this]; exact h3 k (by omega)
    · rw [if_neg e2, if_neg e2]; exact h3 p (by omega)
  · dsimp only
    rw [if_neg (by omega), if_neg (hne p hp)]
theorem AI.set {ad : Nat → Nat} {h : am_H} {k p : Nat} {e : am_E} (hA : AI ad h k) (hp : p < k) : AI ad (am_set h (ad p) e) k := by
  obtain ⟨h1, h2, h3⟩ := hA
  refine ⟨h1, fun q hq => ?_, fun q hq => ?_⟩
  · unfold am_set
    by_cases c : ad q = ad p
    · rw [if_pos c]; exact fun c => by cases c
    · rw [if_neg c]; exact h2 q hq
  · unfold am_set
    have : ad q ≠ ad p := by rw [ne_eq, h1]; omega
    rw [if_neg this]; exact h3 q hq
/-- entries whose references are places -/
def rv (ad : Nat → Nat) (v : Value) : Value := match v with
  | .ref p => .ref (ad p)
  | v => v
def ent (ad : Nat → Nat) (e : am_E) : am_E := match e with
  | .inr (x, fs) => .inr (x, fs.map (rv ad))
  | .inl (t, n, .inr (.inr (.inr (.inr g)))) => .inl (t, n, .inr (.inr (.inr (.inr (fun i => (g i).map ad)))))
  | e => e
def clo (k : Nat) (e : am_E) : Prop := match e with
  | .inr (_, fs) => ∀ p, Value.ref p ∈ fs → p < k
  | .inl (_, _, .inr (.inr (.inr (.inr g)))) => ∀ i p, g i = some p → p < k
  | _ => True
theorem clo.mono {k k' : Nat} {e : am_E} (h : clo k e) (hk : k ≤ k') : clo k' e := by
  rcases e with ⟨t, n, f | f | f | f | g⟩ | ⟨x, fs⟩
  · exact trivial
  · exact trivial
  · exact trivial
  · exact trivial
  · exact fun i p q => Nat.lt_of_lt_of_le (h i p q) hk
  · exact fun p q => Nat.lt_of_lt_of_le (h p q) hk
theorem ent_ad {ad ad' : Nat → Nat} {k : Nat} {e : am_E} (h : clo k e) (t : ∀ p, p < k → ad' p = ad p) : ent ad' e = ent ad e := by
  rcases e with ⟨ty, n, f | f | f | f | g⟩ | ⟨x, fs⟩
  · rfl
  · rfl
  · rfl
  · rfl
  · show (Sum.inl (ty, n, .inr (.inr (.inr (.inr (fun i => (g i).map ad'))))) : am_E) = .inl (ty, n, .inr (.inr (.inr (.inr (fun i => (g i).map ad)))))
    have e1 : (fun i => (g i).map ad') = fun i => (g i).map ad := by
      funext i
      cases q : g i with
      | none => rfl
      | some p => exact congrArg some (t p (h i p q))
    rw [e1]
  · show (Sum.inr (x, fs.map (rv ad')) : am_E) = .inr (x, fs.map (rv ad))
    congr 2
    apply List.map_congr_left
    intro v hv
    cases v with
    | ref p => exact congrArg Value.ref (t p (h p hv))
    | _ => rfl
/-- the heap by places -/
def HP (ad : Nat → Nat) (h : am_H) (k : Nat) (c : Nat → am_E) : Prop := AI ad h k ∧ (∀ p, p < k → h (ad p) = some (ent ad (c p))) ∧ ∀ p, p < k → clo k (c p)
theorem HP.new {ad : Nat → Nat} {h : am_H} {k q : Nat} {c : Nat → am_E} {e : am_E} (hH : HP ad h k c) (he : clo k e) (hq : h q = none) (hee : ent ad e = e) : ∃ ad', ad' k = q ∧ HP ad' (am_set h q e) (k + 1) (va_up c k e) ∧ ∀ p, p < k → ad' p = ad p := by
  obtain ⟨h1, h2, h3⟩ := hH
  obtain ⟨ad', e1, A, t⟩ := h1.new (e := e) hq
  refine ⟨ad', e1, ⟨A, fun p hp => ?_, fun p hp => ?_⟩, t⟩
  · by_cases a : p = k
    · subst a
      rw [va_up_self, e1, ent_ad he t, hee]
      exact f_set_same _ _ _
    · rw [va_up_ne _ _ a, ent_ad (h3 p (by omega)) t, ← h2 p (by omega), t p (by omega)]
      refine f_set_ne _ _ ?_
      intro c2
      exact h1.2.1 p (by omega) (by rw [c2]; exact hq)
  · by_cases a : p = k
    · subst a; rw [va_up_self]; exact he.mono (by omega)
    · rw [va_up_ne _ _ a]; exact (h3 p (by omega)).mono (by omega)
theorem HP.set {ad : Nat → Nat} {h : am_H} {k o : Nat} {c : Nat → am_E} {e : am_E} (hH : HP ad h k c) (ho : o < k) (he : clo k e) : HP ad (am_set h (ad o) (ent ad e)) k (va_up c o e) := by
  obtain ⟨h1, h2, h3⟩ := hH
  refine ⟨h1.set ho, fun p hp => ?_, fun p hp => ?_⟩
  · by_cases a : p = o
    · subst a; rw [va_up_self]; exact s_eq
    · rw [va_up_ne _ _ a, s_ne h1.1 a]; exact h2 p hp
  · by_cases a : p = o
    · subst a; rw [va_up_self]; exact he
    · rw [va_up_ne _ _ a]; exact h3 p hp
theorem clo_set {k x y v : Nat} {fs : List Value} (h : clo k (.inr (x, fs))) (hv : v < k) : clo k (.inr (x, fs.set y (.ref v))) := by
  intro p hp
  rcases List.mem_or_eq_of_mem_set hp with q | q
  · exact h p q
  · cases q; exact hv
section Al
variable {G : am_G} {d : Nat} {K : am_K} {ad : Nat → Nat} {h : am_H} {c : Nat → am_E} {kk k pc : Nat} {lv : am_L} {r : List Value} {nc ns : Nat}
theorem a_arr {t : ArrayType} {len x y N : Nat} {v : Int32} {e : FieldType × vp_A} (hc : pg_code k pc = some (.newarray t, len, x, y)) (hv : v.toNatClampNeg = N) (hv2 : ¬ v < 0) (hz : am_zero t N = some e) (A : HP ad h kk c) (hN : N ≤ 1000000) (hs : nc + 1 ≤ pg_mc k) (hs2 : ns + N ≤ pg_ms k)
    (hX : ∀ ad' h', HP ad' h' (kk + 1) (va_up c kk (.inl e)) → (∀ p, p < kk → ad' p = ad p) → am_W G (am_M G d) k K (pc + 2) lv (.ref (ad' kk) :: r) h' (nc + 1) (ns + N)) : am_W G (am_M G d) k K pc lv (.int v :: r) h nc ns := by
  rw [am_u hc]
  subst hv
  refine (show am_newa k (am_W G (am_M G d) k K) t pc lv v r h nc ns from ⟨⟨hv2, hN, hs, hs2⟩, ?_⟩)
  rw [hz]
  intro q hq
  have hee : clo kk (.inl e) ∧ ent ad (.inl e) = .inl e := by
    cases t <;> simp only [am_zero, Option.some.injEq, reduceCtorEq] at hz <;> subst hz <;> exact ⟨trivial, rfl⟩
  obtain ⟨ad', rfl, A', t'⟩ := A.new (e := .inl e) hee.1 hq hee.2
  exact hX ad' _ A' t'
theorem a_row {i len x y N : Nat} {v : Int32} (hc : pg_code k pc = some (.anewarray i, len, x, y)) (hv : v.toNatClampNeg = N) (hv2 : ¬ v < 0) (A : HP ad h kk c) (hN : N ≤ 1000000) (hs : nc + 1 ≤ pg_mc k) (hs2 : ns + N ≤ pg_ms k)
    (hX : ∀ ad' h', HP ad' h' (kk + 1) (va_up c kk (.inl (.object (pg_cname x), N, .inr (.inr (.inr (.inr (fun _ => none))))))) → (∀ p, p < kk → ad' p = ad p) → am_W G (am_M G d) k K (pc + 3) lv (.ref (ad' kk) :: r) h' (nc + 1) (ns + N)) : am_W G (am_M G d) k K pc lv (.int v :: r) h nc ns := by
  rw [am_u hc]
  subst hv
  refine (show am_newq k (am_W G (am_M G d) k K) x pc lv v r h nc ns from ⟨⟨hv2, hN, hs, hs2⟩, ?_⟩)
  intro q hq
  obtain ⟨ad', rfl, A', t'⟩ := A.new (e := .inl (.object (pg_cname x), v.toNatClampNeg, .inr (.inr (.inr (.inr (fun _ => none)))))) (fun i p q => by cases q) hq rfl
  exact hX ad' _ A' t'
theorem a_obj {i len x y : Nat} {fs : List Value} (hc : pg_code k pc = some (.new i, len, x, y)) (hx : x < 500) (hf : (List.range (pg_nf x)).map (fun j => defaultValue (pg_ty x j)) = fs) (hf2 : ∀ p, ¬ Value.ref p ∈ fs) (A : HP ad h kk c) (hs : nc + 1 ≤ pg_mc k) (hs2 : ns + pg_nf x ≤ pg_ms k)
    (hX : ∀ ad' h', HP ad' h' (kk + 1) (va_up c kk (.inr (x, fs))) → (∀ p, p < kk → ad' p = ad p) → am_W G (am_M G d) k K (pc + 3) lv (.ref (ad' kk) :: r) h' (nc + 1) (ns + pg_nf x)) : am_W G (am_M G d) k K pc lv r h nc ns := by
  rw [am_u hc]
  show am_new k K (am_W G (am_M G d) k K) x pc lv r h nc ns
  unfold am_new
  rw [if_pos hx, hf]
  refine ⟨⟨hs, hs2⟩, fun q hq => ?_⟩
  have hee : ent ad (.inr (x, fs)) = .inr (x, fs) := by
    show (Sum.inr (x, fs.map (rv ad)) : am_E) = _
    congr 2
    refine (List.map_congr_left (g := id) fun v hv => ?_).trans (List.map_id _)
    cases v with
    | ref p => exact absurd hv (hf2 p)
    | _ => rfl
  obtain ⟨ad', rfl, A', t'⟩ := A.new (e := .inr (x, fs)) (fun p hp => absurd hp (hf2 p)) hq hee
  exact hX ad' _ A' t'
/-- a reference into a field -/
theorem a_fld {i len x y o b a0 q : Nat} {fs : List Value} (hc : pg_code k pc = some (.putfield i, len, x, y)) (A : HP ad h kk c) (ho : o < kk) (hb : b < kk) (hco : c o = .inr (x, fs)) (ea : ad o = a0) (eq : ad b = q) (hy : y < fs.length) (hn : narrow (pg_ty x y) (.ref q) = .ref q ∧ fits (pg_ty x y) (.ref q) = true)
    (hX : ∀ h', HP ad h' kk (va_up c o (.inr (x, fs.set y (.ref b)))) → am_W G (am_M G d) k K (pc + 3) lv r h' nc ns) : am_W G (am_M G d) k K pc lv (.ref q :: .ref a0 :: r) h nc ns := by
  rw [am_u hc]
  have hh : h a0 = some (.inr (x, fs.map (rv ad))) := by rw [← ea, A.2.1 o ho, hco]; rfl
  have hcl : clo kk (.inr (x, fs)) := by rw [← hco]; exact A.2.2 o ho
  have hS := A.set (o := o) (e := .inr (x, fs.set y (.ref b))) ho (clo_set hcl hb)
  have e1 : ent ad (.inr (x, fs.set y (.ref b))) = .inr (x, (fs.map (rv ad)).set y (.ref q)) := by
    show (Sum.inr (x, (fs.set y (.ref b)).map (rv ad)) : am_E) = _
    rw [List.map_set]
    show (Sum.inr (x, (fs.map (rv ad)).set y (.ref (ad b))) : am_E) = _
    rw [eq]
  rw [e1, ea] at hS
  refine (show am_ob h a0 x (fun fs => (y < fs.length ∧ narrow (pg_ty x y) (.ref q) = .ref q ∧ fits (pg_ty x y) (.ref q) = true) ∧ am_W G (am_M G d) k K (pc + 3) lv r (am_set h a0 (.inr (x, fs.set y (.ref q)))) nc ns) from ?_)
  unfold am_ob
  rw [hh]
  exact ⟨rfl, ⟨by rw [List.length_map]; exact hy, hn⟩, hX _ hS⟩
/-- a new array into a field -/
theorem a_fa {t : ArrayType} {len x' y' N i2 len2 x y o a0 : Nat} {v : Int32} {e : FieldType × vp_A} {fs : List Value} (hc : pg_code k pc = some (.newarray t, len, x', y')) (hc2 : pg_code k (pc + 2) = some (.putfield i2, len2, x, y)) (hv : v.toNatClampNeg = N) (hv2 : ¬ v < 0) (hz : am_zero t N = some e) (A : HP ad h kk c) (hN : N ≤ 1000000) (hs : nc + 1 ≤ pg_mc k) (hs2 : ns + N ≤ pg_ms k)
    (ho : o < kk) (hco : c o = .inr (x, fs)) (ea : ad o = a0) (hy : y < fs.length) (hn : ∀ q, narrow (pg_ty x y) (.ref q) = .ref q ∧ fits (pg_ty x y) (.ref q) = true)
    (hX : ∀ ad' h', HP ad' h' (kk + 1) (va_up (va_up c kk (.inl e)) o (.inr (x, fs.set y (.ref kk)))) → (∀ p, p < kk → ad' p = ad p) → am_W G (am_M G d) k K (pc + 5) lv r h' (nc + 1) (ns + N)) : am_W G (am_M G d) k K pc lv (.int v :: .ref a0 :: r) h nc ns := by
  refine a_arr hc hv hv2 hz A hN hs hs2 (fun ad' h' A' t' => ?_)
  exact a_fld hc2 A' (by omega) (by omega) ((va_up_ne _ _ (by omega)).trans hco) ((t' o ho).trans ea) rfl hy (hn _) (fun h'' A'' => hX ad' h'' A'' t')
end Al
def z0 : Nat → Int32 := fun _ => 0
def z0L : Nat → Int64 := fun _ => 0
def zF0 : FT := (z0, z0, z0)
def zS0 : Sl := (zF0, z0L, z0, z0, z0L, zF0, z0, z0L, z0L)
def eI (N : Nat) : am_E := .inl (.int, N, .inl z0)
def eZ (N : Nat) : am_E := .inl (.boolean, N, .inl z0)
def eL (N : Nat) : am_E := .inl (.long, N, .inr (.inl z0L))
/-- new Formulas at place f -/
def NF (c : Nat → am_E) (f : Nat) : Prop := c f = .inr (2, [.ref (f + 1), .ref (f + 2), .ref (f + 3), .int 0]) ∧ c (f + 1) = eI 150 ∧ c (f + 2) = eI 150 ∧ c (f + 3) = eI 150
section Al2
variable {G : am_G} {d : Nat} {K : am_K} {ad : Nat → Nat} {h : am_H} {c : Nat → am_E}
theorem c_newF {f a0 : Nat} (A : HP ad h (f + 1) c) (ho : c f = .inr (2, [.null, .null, .null, .int 0])) (ea : ad f = a0)
    (hk : ∀ ad' h' c', HP ad' h' (f + 4) c' → (∀ p, p < f + 1 → ad' p = ad p) → (∀ p, p < f → c' p = c p) → NF c' f → K (.inl none) h') : am_M G (d + 1) 1 [.ref a0] h K := by
  refine n_1 ?_
  have hw : am_words [] ≤ 8 := by decide
  simp only [u_1_0, u_1_1, u_1_4, u_1_5, u_1_10, u_1_13, u_1_14, u_1_19, u_1_22, u_1_23, u_1_28, u_1_31, f_gf_some, f_gv_some, f_pf_some, f_ia_some, f_la_some, f_aa_some, f_is_some, f_ls_some, f_rc_some, f_at0, f_atS, f_st_0, f_st_1i, f_st_1r, f_st_1l, f_st_1n, f_st_S, f_s2_0, f_s2_1i, f_s2_1r, f_s2_1l, f_s2_1n, f_s2_S, true_and, and_true, List.set_cons_zero, List.set_cons_succ, List.length_cons, List.length_nil, Nat.reduceAdd, Nat.reduceEqDiff, reduceIte, Nat.left_eq_add, Nat.add_eq_left, Nat.reduceLT, hw]
  refine a_fa (o := f) (N := 150) e_1_8 e_1_10 rfl (by decide) rfl A (by decide) (by decide) (by decide) (by omega) ho ea (by decide) (fun _ => ⟨rfl, rfl⟩) (fun ad1 h1 A1 t1 => ?_)
  simp only [u_1_0, u_1_1, u_1_4, u_1_5, u_1_10, u_1_13, u_1_14, u_1_19, u_1_22, u_1_23, u_1_28, u_1_31, f_gf_some, f_gv_some, f_pf_some, f_ia_some, f_la_some, f_aa_some, f_is_some, f_ls_some, f_rc_some, f_at0, f_atS, f_st_0, f_st_1i, f_st_1r, f_st_1l, f_st_1n, f_st_S, f_s2_0, f_s2_1i, f_s2_1r, f_s2_1l, f_s2_1n, f_s2_S, true_and, and_true, List.set_cons_zero, List.set_cons_succ, List.length_cons, List.length_nil, Nat.reduceAdd, Nat.reduceEqDiff, reduceIte, Nat.left_eq_add, Nat.add_eq_left, Nat.reduceLT]
  refine a_fa (o := f) (N := 150) e_1_17 e_1_19 rfl (by decide) rfl A1 (by decide) (by decide) (by decide) (by omega) (va_up_self _ _ _) ((t1 f (by omega)).trans ea) (by simp only [List.length_set, List.length_cons, List.length_nil]; decide) (fun _ => ⟨rfl, rfl⟩) (fun ad2 h2 A2 t2 => ?_)
  simp only [u_1_0, u_1_1, u_1_4, u_1_5, u_1_10, u_1_13, u_1_14, u_1_19, u_1_22, u_1_23, u_1_28, u_1_31, f_gf_some, f_gv_some, f_pf_some, f_ia_some, f_la_some, f_aa_some, f_is_some, f_ls_some, f_rc_some, f_at0, f_atS, f_st_0, f_st_1i, f_st_1r, f_st_1l, f_st_1n, f_st_S, f_s2_0, f_s2_1i, f_s2_1r, f_s2_1l, f_s2_1n, f_s2_S, true_and, and_true, List.set_cons_zero, List.set_cons_succ, List.length_cons, List.length_nil, Nat.reduceAdd, Nat.reduceEqDiff, reduceIte, Nat.left_eq_add, Nat.add_eq_left, Nat.reduceLT]
  refine a_fa (o := f) (N := 150) e_1_26 e_1_28 rfl (by decide) rfl A2 (by decide) (by decide) (by decide) (by omega) (va_up_self _ _ _) ((t2 f (by omega)).trans ((t1 f (by omega)).trans ea)) (by simp only [List.length_set, List.length_cons, List.length_nil]; decide) (fun _ => ⟨rfl, rfl⟩) (fun ad3 h3 A3 t3 => ?_)
  simp only [u_1_0, u_1_1, u_1_4, u_1_5, u_1_10, u_1_13, u_1_14, u_1_19, u_1_22, u_1_23, u_1_28, u_1_31, f_gf_some, f_gv_some, f_pf_some, f_ia_some, f_la_some, f_aa_some, f_is_some, f_ls_some, f_rc_some, f_at0, f_atS, f_st_0, f_st_1i, f_st_1r, f_st_1l, f_st_1n, f_st_S, f_s2_0, f_s2_1i, f_s2_1r, f_s2_1l, f_s2_1n, f_s2_S, true_and, and_true, List.set_cons_zero, List.set_cons_succ, List.length_cons, List.length_nil, Nat.reduceAdd, Nat.reduceEqDiff, reduceIte, Nat.left_eq_add, Nat.add_eq_left, Nat.reduceLT]
  refine hk ad3 h3 _ A3 (fun p hp => (t3 p (by omega)).trans ((t2 p (by omega)).trans (t1 p hp))) (fun p hp => ?_) ⟨va_up_self _ _ _, ?_, ?_, ?_⟩
  · rw [va_up_ne _ _ (by omega), va_up_ne _ _ (by omega), va_up_ne _ _ (by omega), va_up_ne _ _ (by omega), va_up_ne _ _ (by omega), va_up_ne _ _ (by omega)]
  · rw [va_up_ne _ _ (by omega), va_up_ne _ _ (by omega), va_up_ne _ _ (by omega), va_up_ne _ _ (by omega), va_up_ne _ _ (by omega)]; exact va_up_self _ _ _
  · rw [va_up_ne _ _ (by omega), va_up_ne _ _ (by omega), va_up_ne _ _ (by omega)]; exact va_up_self _ _ _
  · rw [va_up_ne _ _ (by omega)]; exact va_up_self _ _ _
end Al2
