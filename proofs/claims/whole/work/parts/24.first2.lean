-- lemmas by which the printed steps are made
theorem f_t {c X : Prop} (hc : c) : (c ∧ X) = X := propext ⟨And.right, fun x => ⟨hc, x⟩⟩
section FirstB
variable {G : am_G} {d k : Nat} {K : am_K} {pc : Nat} {lv : am_L} {st : List Value} {h : am_H} {nc ns : Nat} {a x y : Nat} {j b : Int32} {v : Value}
theorem f_pf_eq (hn : narrow (pg_ty x y) v = v ∧ fits (pg_ty x y) v = true) : (am_ob h a x fun fs => (y < fs.length ∧ narrow (pg_ty x y) v = v ∧ fits (pg_ty x y) v = true) ∧ am_W G (am_M G d) k K pc lv st (am_set h a (.inr (x, fs.set y v))) nc ns) = f_pf G d k K pc lv st h nc ns (h a) x y a v := by
  show am_ob (fun _ => h a) 0 x _ = am_ob (fun _ => h a) 0 x _
  congr 1
  funext fs
  simp only [hn.1, hn.2, and_true]
theorem f_pfz_eq (hz : pg_ty x y = .boolean) (hb : b = 0 ∨ b = 1) : (am_ob h a x fun fs => (y < fs.length ∧ narrow (pg_ty x y) (.int b) = .int b ∧ fits (pg_ty x y) (.int b) = true) ∧ am_W G (am_M G d) k K pc lv st (am_set h a (.inr (x, fs.set y (.int b)))) nc ns) = f_pf G d k K pc lv st h nc ns (h a) x y a (.int b) := by
  refine f_pf_eq ?_
  rw [hz]
  rcases hb with rfl | rfl <;> decide
theorem f_z_eq {a : Int32} (hr : pg_ret k = some .boolean) : ((([] : List Value) = [] ∧ (∃ ty, pg_ret k = some ty ∧ narrow ty (.int a) = .int a)) ∧ K (.inl (some (.int a))) h) = (narrow .boolean (.int a) = .int a ∧ K (.inl (some (.int a))) h) := by
  apply propext
  constructor
  · rintro ⟨⟨-, ty, h1, h2⟩, h3⟩
    rw [hr] at h1
    cases h1
    exact ⟨h2, h3⟩
  · rintro ⟨h2, h3⟩
    exact ⟨⟨rfl, _, hr, h2⟩, h3⟩
/-- a call of an object's method -/
theorem f_iv_eq {X : am_X} (vs : List Value) (hx : x < 900) (hs : pg_stat x = false) : am_inv (am_M G d) k K X x (vs.length + 1) pc lv (vs.reverse ++ .ref a :: st) h nc ns = ((am_words st ≤ 8 ∧ nc + pg_mc x ≤ pg_mc k ∧ ns + pg_ms x ≤ pg_ms k ∧ f_rc (h a) (pg_cls x)) ∧ am_M G d x (.ref a :: vs) h (am_back k K X x pc lv st nc ns)) := by
  have e1 : (vs.reverse ++ .ref a :: st).take (vs.length + 1) = (Value.ref a :: vs).reverse := by
    rw [List.reverse_cons, List.append_cons]
    exact List.take_left' (by simp)
  have e2 : (vs.reverse ++ .ref a :: st).drop (vs.length + 1) = st := by
    rw [List.append_cons]
    exact List.drop_left' (by simp)
  have e3 : am_inv (am_M G d) k K X x (vs.length + 1) pc lv (vs.reverse ++ .ref a :: st) h nc ns = am_call (am_M G d) k K X x (vs.length + 1) pc lv (vs.reverse ++ .ref a :: st) h nc ns := by
    unfold am_inv
    split <;> first | omega | rfl
  rw [e3]
  unfold am_call
  rw [e1, e2, List.reverse_reverse, hs]
  have e4 : (am_sr (Value.ref a :: vs) (fun a _ => am_ob h a (pg_cls x) (fun _ => True))) = f_rc (h a) (pg_cls x) := by
    rfl
  rw [e4]
  apply propext
  constructor
  · rintro ⟨⟨-, q2, q3, q4, q5⟩, q6⟩
    exact ⟨⟨q2, q3, q4, q5 rfl⟩, q6⟩
  · rintro ⟨⟨q2, q3, q4, q5⟩, q6⟩
    exact ⟨⟨by simp, q2, q3, q4, fun _ => q5⟩, q6⟩
/-- a call of a static method -/
theorem f_st_eq {X : am_X} (vs : List Value) (hx : x < 900) (hs : pg_stat x = true) : am_inv (am_M G d) k K X x vs.length pc lv (vs.reverse ++ st) h nc ns = ((am_words st ≤ 8 ∧ nc + pg_mc x ≤ pg_mc k ∧ ns + pg_ms x ≤ pg_ms k) ∧ am_M G d x vs h (am_back k K X x pc lv st nc ns)) := by
  have e1 : (vs.reverse ++ st).take vs.length = vs.reverse := List.take_left' (by simp)
  have e2 : (vs.reverse ++ st).drop vs.length = st := List.drop_left' (by simp)
  have e3 : am_inv (am_M G d) k K X x vs.length pc lv (vs.reverse ++ st) h nc ns = am_call (am_M G d) k K X x vs.length pc lv (vs.reverse ++ st) h nc ns := by
    unfold am_inv
    split <;> first | omega | rfl
  rw [e3]
  unfold am_call
  rw [e1, e2, List.reverse_reverse, hs]
  apply propext
  constructor
  · rintro ⟨⟨-, q2, q3, q4, q5⟩, q6⟩
    exact ⟨⟨q2, q3, q4⟩, q6⟩
  · rintro ⟨⟨q2, q3, q4⟩, q6⟩
    exact ⟨⟨by simp, q2, q3, q4, fun z => by cases z⟩, q6⟩
end FirstB
-- stores into locals that are a written list
theorem f_st_0 {z : Option Value} {lv : am_L} {v : Value} : am_st1 (z :: lv) 0 v = some v :: lv := rfl
theorem f_st_1i {a : Int32} {z : Option Value} {lv : am_L} {v : Value} : am_st1 (some (.int a) :: z :: lv) 1 v = some (.int a) :: some v :: lv := rfl
theorem f_st_1r {a : Nat} {z : Option Value} {lv : am_L} {v : Value} : am_st1 (some (.ref a) :: z :: lv) 1 v = some (.ref a) :: some v :: lv := rfl
theorem f_st_1l {a : Int64} {z : Option Value} {lv : am_L} {v : Value} : am_st1 (some (.long a) :: z :: lv) 1 v = none :: some v :: lv := rfl
theorem f_st_1n {z : Option Value} {lv : am_L} {v : Value} : am_st1 (none :: z :: lv) 1 v = none :: some v :: lv := rfl
theorem f_pre_S {z : Option Value} {lv : am_L} {n : Nat} : am_pre (z :: lv) (n + 2) = z :: am_pre lv (n + 1) := by
  show (match (z :: lv)[n + 1]? with | some (some v) => if v.category = 2 then (z :: lv).set (n + 1) none else z :: lv | _ => z :: lv) = z :: (match lv[n]? with | some (some v) => if v.category = 2 then lv.set n none else lv | _ => lv)
  rw [f_atS]
  cases lv[n]? with
  | none => rfl
  | some o => cases o with
    | none => rfl
    | some v =>
      dsimp only
      by_cases c : v.category = 2
      · rw [if_pos c, if_pos c]; rfl
      · rw [if_neg c, if_neg c]
theorem f_st_S {z : Option Value} {lv : am_L} {n : Nat} {v : Value} : am_st1 (z :: lv) (n + 2) v = z :: am_st1 lv (n + 1) v := by
  unfold am_st1
  rw [f_pre_S]
  rfl
theorem f_s2_0 {z w : Option Value} {lv : am_L} {v : Value} : am_st2 (z :: w :: lv) 0 v = some v :: none :: lv := rfl
theorem f_s2_1i {a : Int32} {z w : Option Value} {lv : am_L} {v : Value} : am_st2 (some (.int a) :: z :: w :: lv) 1 v = some (.int a) :: some v :: none :: lv := rfl
theorem f_s2_1r {a : Nat} {z w : Option Value} {lv : am_L} {v : Value} : am_st2 (some (.ref a) :: z :: w :: lv) 1 v = some (.ref a) :: some v :: none :: lv := rfl
theorem f_s2_1l {a : Int64} {z w : Option Value} {lv : am_L} {v : Value} : am_st2 (some (.long a) :: z :: w :: lv) 1 v = none :: some v :: none :: lv := rfl
theorem f_s2_1n {z w : Option Value} {lv : am_L} {v : Value} : am_st2 (none :: z :: w :: lv) 1 v = none :: some v :: none :: lv := rfl
theorem f_s2_S {z : Option Value} {lv : am_L} {n : Nat} {v : Value} : am_st2 (z :: lv) (n + 2) v = z :: am_st2 lv (n + 1) v := by
  unfold am_st2
  rw [f_pre_S]
  rfl
