-- locals: the abstract list and the machine's array
def am_lv (ls : Array Slot) (nL : Nat) (lv : am_L) : Prop := ls.size = nL ∧ lv_wf ls ∧ ∀ (i : Nat) (v : Value), lv[i]? = some (some v) → ls[i]? = some (.val v)
def am_as (lv : am_L) : List (Nat × Value) := lv.zipIdx.filterMap fun q => q.1.map fun v => (q.2, v)
theorem am_as_mem {lv : am_L} {i : Nat} {v : Value} : (i, v) ∈ am_as lv ↔ lv[i]? = some (some v) := by
  unfold am_as
  rw [List.mem_filterMap]
  constructor
  · rintro ⟨⟨o, j⟩, hm, he⟩
    rw [List.mem_zipIdx_iff_getElem?] at hm
    cases o with
    | none => cases he
    | some w =>
      cases he
      exact hm
  · intro hi
    exact ⟨(some v, i), List.mem_zipIdx_iff_getElem?.mpr hi, rfl⟩
theorem am_lv.has {ls : Array Slot} {nL : Nat} {lv : am_L} (h : am_lv ls nL lv) : lv_has ls nL (am_as lv) := ⟨h.1, h.2.1, fun q hq => h.2.2 q.1 q.2 (am_as_mem.mp hq)⟩
theorem am_pre_at {lv : am_L} {i j : Nat} {w : Value} (h : (am_pre lv i)[j]? = some (some w)) : lv[j]? = some (some w) ∧ ¬ (j + 1 = i ∧ w.category = 2) := by
  cases i with
  | zero => exact ⟨h, fun q => by omega⟩
  | succ a =>
    rw [show am_pre lv (a + 1) = (match lv[a]? with | some (some v) => if v.category = 2 then lv.set a none else lv | _ => lv) from rfl] at h
    split at h
    · rename_i v hv
      split at h
      · by_cases e : a = j
        · subst e
          rw [List.getElem?_set_self' ] at h
          cases hl : lv[a]? with
          | none => rw [hl] at h; cases h
          | some o => rw [hl] at h; cases h
        · rw [List.getElem?_set_ne e] at h
          exact ⟨h, fun q => e (by omega)⟩
      · rename_i hc
        refine ⟨h, fun q => ?_⟩
        obtain ⟨q1, q2⟩ := q
        have e : a = j := by omega
        subst e
        rw [hv] at h
        cases h
        exact hc q2
    · rename_i hn
      refine ⟨h, fun q => ?_⟩
      have e : a = j := by omega
      subst e
      exact hn _ h
theorem am_lv.st1 {ls' : Array Slot} {nL : Nat} {lv : am_L} {i : Nat} {v : Value} (h : lv_has ls' nL ((i, v) :: (am_as lv).filter (fun q => !(q.1 == i) && !(q.1 + 1 == i && q.2.category == 2)))) : am_lv ls' nL (am_st1 lv i v) := by
  refine ⟨h.1, h.2.1, fun j w hj => ?_⟩
  unfold am_st1 at hj
  by_cases e : i = j
  · subst e
    rw [List.getElem?_set_self'] at hj
    cases hl : (am_pre lv i)[i]? with
    | none => rw [hl] at hj; cases hj
    | some o =>
      rw [hl] at hj
      cases hj
      exact h.2.2 (i, v) List.mem_cons_self
  · rw [List.getElem?_set_ne e] at hj
    obtain ⟨h1, h2⟩ := am_pre_at hj
    refine h.2.2 (j, w) (List.mem_cons_of_mem _ (List.mem_filter.mpr ⟨am_as_mem.mpr h1, ?_⟩))
    have e' : (j == i) = false := by simpa using fun q => e q.symm
    have e2 : (j + 1 == i && w.category == 2) = false := by
      cases hq : (j + 1 == i && w.category == 2) with
      | false => rfl
      | true =>
        rw [Bool.and_eq_true] at hq
        exact absurd ⟨by simpa using hq.1, by simpa using hq.2⟩ h2
    show (!(j == i) && !(j + 1 == i && w.category == 2)) = true
    rw [e', e2]
    rfl
theorem am_lv.st2 {ls' : Array Slot} {nL : Nat} {lv : am_L} {i : Nat} {v : Value} (h : lv_has ls' nL ((i, v) :: (am_as lv).filter (fun q => !(q.1 == i) && (!(q.1 == i + 1) && !(q.1 + 1 == i && q.2.category == 2))))) : am_lv ls' nL (am_st2 lv i v) := by
  refine ⟨h.1, h.2.1, fun j w hj => ?_⟩
  unfold am_st2 at hj
  by_cases e1 : i + 1 = j
  · subst e1
    rw [List.getElem?_set_self'] at hj
    cases hl : ((am_pre lv i).set i (some v))[i + 1]? with
    | none => rw [hl] at hj; cases hj
    | some o => rw [hl] at hj; cases hj
  · rw [List.getElem?_set_ne e1] at hj
    by_cases e : i = j
    · subst e
      rw [List.getElem?_set_self'] at hj
      cases hl : (am_pre lv i)[i]? with
      | none => rw [hl] at hj; cases hj
      | some o =>
        rw [hl] at hj
        cases hj
        exact h.2.2 (i, v) List.mem_cons_self
    · rw [List.getElem?_set_ne e] at hj
      obtain ⟨h1, h2⟩ := am_pre_at hj
      refine h.2.2 (j, w) (List.mem_cons_of_mem _ (List.mem_filter.mpr ⟨am_as_mem.mpr h1, ?_⟩))
      have e' : (j == i) = false := by simpa using fun q => e q.symm
      have e3 : (j == i + 1) = false := by simpa using fun q => e1 q.symm
      have e2 : (j + 1 == i && w.category == 2) = false := by
        cases hq : (j + 1 == i && w.category == 2) with
        | false => rfl
        | true =>
          rw [Bool.and_eq_true] at hq
          exact absurd ⟨by simpa using hq.1, by simpa using hq.2⟩ h2
      show (!(j == i) && (!(j == i + 1) && !(j + 1 == i && w.category == 2))) = true
      rw [e', e2, e3]
      rfl
theorem am_lay_at : ∀ (vs : List Value) (i : Nat) (v : Value), (am_lay vs)[i]? = some (some v) → (lg_sl vs)[i]? = some (.val v)
  | [], i, v, h => by simp [am_lay] at h
  | w :: vs, i, v, h => by
    have hA : am_lay (w :: vs) = (if w.category = 2 then [some w, none] else [some w]) ++ am_lay vs := rfl
    have hB : lg_sl (w :: vs) = (if w.category = 2 then [.val w, .second] else [.val w]) ++ lg_sl vs := rfl
    rw [hA] at h
    rw [hB]
    by_cases c : w.category = 2
    · rw [if_pos c] at h ⊢
      match i, h with
      | 0, h => simp at h; subst h; rfl
      | 1, h => simp at h
      | j + 2, h => exact am_lay_at vs j v h
    · rw [if_neg c] at h ⊢
      match i, h with
      | 0, h => simp at h; subst h; rfl
      | j + 1, h => exact am_lay_at vs j v h
theorem am_lay_len : ∀ vs : List Value, (am_lay vs).length = (lg_sl vs).length
  | [] => rfl
  | w :: vs => by
    have hA : am_lay (w :: vs) = (if w.category = 2 then [some w, none] else [some w]) ++ am_lay vs := rfl
    have hB : lg_sl (w :: vs) = (if w.category = 2 then [.val w, .second] else [.val w]) ++ lg_sl vs := rfl
    rw [hA, hB, List.length_append, List.length_append, am_lay_len vs]
    by_cases c : w.category = 2
    · rw [if_pos c, if_pos c]; rfl
    · rw [if_neg c, if_neg c]; rfl
theorem am_entry {k : Nat} {vs : List Value} (h : (am_lay vs).length ≤ pg_max k) : am_lv ((lg_sl vs ++ List.replicate (pg_max k - (lg_sl vs).length) Slot.unset).toArray) (pg_max k) (am_ent k vs) := by
  have hl := lv_entry vs (n := pg_max k) (by rw [← am_lay_len]; exact h)
  refine ⟨hl.1, hl.2.1, fun i v hi => ?_⟩
  unfold am_ent at hi
  rw [List.getElem?_toArray]
  rw [List.getElem?_append] at hi ⊢
  rw [← am_lay_len]
  split at hi
  · rename_i hlt
    rw [if_pos hlt]
    exact am_lay_at vs i v hi
  · rw [List.getElem?_replicate] at hi
    split at hi <;> cases hi
