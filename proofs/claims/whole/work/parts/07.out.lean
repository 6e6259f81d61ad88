-- what a helper's truth says
theorem am_li.out {lv : am_L} {n : Nat} {F : Int32 → Prop} (q : am_li lv n F) : ∃ a, lv[n]? = some (some (.int a)) ∧ F a := by
  unfold am_li at q
  split at q
  · exact ⟨_, by assumption, q⟩
  · exact q.elim
theorem am_ll.out {lv : am_L} {n : Nat} {F : Int64 → Prop} (q : am_ll lv n F) : ∃ a, lv[n]? = some (some (.long a)) ∧ F a := by
  unfold am_ll at q
  split at q
  · exact ⟨_, by assumption, q⟩
  · exact q.elim
theorem am_la.out {lv : am_L} {n : Nat} {F : Value → Prop} (q : am_la lv n F) : ∃ v, ((∃ a, v = .ref a) ∨ v = .null) ∧ lv[n]? = some (some v) ∧ F v := by
  unfold am_la at q
  split at q
  · exact ⟨_, Or.inl ⟨_, rfl⟩, by assumption, q⟩
  · exact ⟨_, Or.inr rfl, by assumption, q⟩
  · exact q.elim
theorem am_si.out {st : List Value} {F : Int32 → List Value → Prop} (q : am_si st F) : ∃ a r, st = .int a :: r ∧ F a r := by
  unfold am_si at q
  split at q
  · exact ⟨_, _, rfl, q⟩
  · exact q.elim
theorem am_sl.out {st : List Value} {F : Int64 → List Value → Prop} (q : am_sl st F) : ∃ a r, st = .long a :: r ∧ F a r := by
  unfold am_sl at q
  split at q
  · exact ⟨_, _, rfl, q⟩
  · exact q.elim
theorem am_sa.out {st : List Value} {F : Value → List Value → Prop} (q : am_sa st F) : ∃ v r, ((∃ a, v = .ref a) ∨ v = .null) ∧ st = v :: r ∧ F v r := by
  unfold am_sa at q
  split at q
  · exact ⟨_, _, Or.inl ⟨_, rfl⟩, rfl, q⟩
  · exact ⟨_, _, Or.inr rfl, rfl, q⟩
  · exact q.elim
theorem am_sr.out {st : List Value} {F : Nat → List Value → Prop} (q : am_sr st F) : ∃ a r, st = .ref a :: r ∧ F a r := by
  unfold am_sr at q
  split at q
  · exact ⟨_, _, rfl, q⟩
  · exact q.elim
theorem am_sv.out {st : List Value} {F : Value → List Value → Prop} (q : am_sv st F) : ∃ a r, st = a :: r ∧ F a r := by
  unfold am_sv at q
  split at q
  · exact ⟨_, _, rfl, q⟩
  · exact q.elim
theorem am_ii.out {st : List Value} {F : Int32 → Int32 → List Value → Prop} (q : am_ii st F) : ∃ a b r, st = .int b :: .int a :: r ∧ F a b r := by
  unfold am_ii at q
  split at q
  · exact ⟨_, _, _, rfl, q⟩
  · exact q.elim
theorem am_lll.out {st : List Value} {F : Int64 → Int64 → List Value → Prop} (q : am_lll st F) : ∃ a b r, st = .long b :: .long a :: r ∧ F a b r := by
  unfold am_lll at q
  split at q
  · exact ⟨_, _, _, rfl, q⟩
  · exact q.elim
theorem am_lsh.out {st : List Value} {F : Int64 → Int32 → List Value → Prop} (q : am_lsh st F) : ∃ a b r, st = .int b :: .long a :: r ∧ F a b r := by
  unfold am_lsh at q
  split at q
  · exact ⟨_, _, _, rfl, q⟩
  · exact q.elim
theorem am_ia.out {st : List Value} {F : Nat → Int32 → List Value → Prop} (q : am_ia st F) : ∃ a j r, st = .int j :: .ref a :: r ∧ F a j r := by
  unfold am_ia at q
  split at q
  · exact ⟨_, _, _, rfl, q⟩
  · exact q.elim
theorem am_via.out {st : List Value} {F : Nat → Int32 → Value → List Value → Prop} (q : am_via st F) : ∃ a j v r, st = v :: .int j :: .ref a :: r ∧ F a j v r := by
  unfold am_via at q
  split at q
  · exact ⟨_, _, _, _, rfl, q⟩
  · exact q.elim
theorem am_ob.out {h : am_H} {a ci : Nat} {F : List Value → Prop} (q : am_ob h a ci F) : ∃ fs, h a = some (.inr (ci, fs)) ∧ F fs := by
  unfold am_ob at q
  split at q
  · obtain ⟨rfl, q⟩ := q
    exact ⟨_, by assumption, q⟩
  · exact q.elim
theorem am_ai.out {h : am_H} {a : Nat} {ty : FieldType} {F : Nat → (Nat → Int32) → Prop} (q : am_ai h a ty F) : ∃ n f, h a = some (.inl (ty, n, .inl f)) ∧ F n f := by
  unfold am_ai at q
  split at q
  · obtain ⟨rfl, q⟩ := q
    exact ⟨_, _, by assumption, q⟩
  · exact q.elim
theorem am_al.out {h : am_H} {a : Nat} {F : Nat → (Nat → Int64) → Prop} (q : am_al h a F) : ∃ n f, h a = some (.inl (.long, n, .inr (.inl f))) ∧ F n f := by
  unfold am_al at q
  split at q
  · obtain ⟨rfl, q⟩ := q
    exact ⟨_, _, by assumption, q⟩
  · exact q.elim
theorem am_aa.out {h : am_H} {a : Nat} {F : String → Nat → (Nat → Option Nat) → Prop} (q : am_aa h a F) : ∃ C n f, h a = some (.inl (.object C, n, .inr (.inr (.inr (.inr f))))) ∧ F C n f := by
  unfold am_aa at q
  split at q
  · exact ⟨_, _, _, by assumption, q⟩
  · exact q.elim
theorem am_an.out {h : am_H} {a : Nat} {F : Nat → Prop} (q : am_an h a F) : ∃ t n x, h a = some (.inl (t, n, x)) ∧ F n := by
  unfold am_an at q
  split at q
  · exact ⟨_, _, _, by assumption, q⟩
  · exact q.elim
theorem am_opt.out {α : Type} {o : Option α} {F : α → Prop} (q : am_opt o F) : ∃ v, o = some v ∧ F v := by
  unfold am_opt at q
  split at q
  · exact ⟨_, rfl, q⟩
  · exact q.elim
theorem am_st5.out {st : List Value} {F : Nat → Int32 → Nat → Int32 → Int32 → List Value → Prop} (q : am_st5 st F) : ∃ a0 sp a1 dp n r, st = .int n :: .int dp :: .ref a1 :: .int sp :: .ref a0 :: r ∧ F a0 sp a1 dp n r := by
  unfold am_st5 at q
  split at q
  · exact ⟨_, _, _, _, _, _, rfl, q⟩
  · exact q.elim
