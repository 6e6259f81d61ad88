-- the abstract heap and the kit's worlds
def am_in (ws : va_W) (tys : List (ClassId × FieldType)) (a : Nat) (e : am_E) : Prop := match e with
  | .inl x => ∃ (q t : Nat) (cA : ClassId), ws[q]? = some (a, .inl (cA, x.2)) ∧ tys[t]? = some (cA, x.1)
  | .inr o => ∃ q : Nat, ws[q]? = some (a, .inr o)
def am_Rel (ws : va_W) (tys : List (ClassId × FieldType)) (h : am_H) : Prop := ∀ (a : Nat) (e : am_E), h a = some e → am_in ws tys a e
theorem am_in.place {ws : va_W} {tys : List (ClassId × FieldType)} {a : Nat} {e : am_E} (h : am_in ws tys a e) : ∃ (q : Nat) (e' : va_E), ws[q]? = some (a, e') := by
  cases e with
  | inl x => obtain ⟨q, t, cA, h1, -⟩ := h; exact ⟨q, _, h1⟩
  | inr o => obtain ⟨q, h1⟩ := h; exact ⟨q, _, h1⟩
theorem am_in.set {ws : va_W} {tys : List (ClassId × FieldType)} {a b q0 : Nat} {e : am_E} {e0 e1 : va_E} (h : am_in ws tys b e) (hq : ws[q0]? = some (a, e0)) (hn : b ≠ a) : am_in (ws.set q0 (a, e1)) tys b e := by
  have key : ∀ (q : Nat) (e' : va_E), ws[q]? = some (b, e') → (ws.set q0 (a, e1))[q]? = some (b, e') := by
    intro q e' h1
    rw [List.getElem?_set_ne]
    · exact h1
    · intro z
      subst z
      rw [hq] at h1
      cases h1
      exact hn rfl
  cases e with
  | inl x => obtain ⟨q, t, cA, h1, h2⟩ := h; exact ⟨q, t, cA, key q _ h1, h2⟩
  | inr o => obtain ⟨q, h1⟩ := h; exact ⟨q, key q _ h1⟩
theorem am_set_self (ws : va_W) {q0 a : Nat} {e0 e1 : va_E} (hq : ws[q0]? = some (a, e0)) : (ws.set q0 (a, e1))[q0]? = some (a, e1) := by
  rw [List.getElem?_set_self', hq]; rfl
theorem am_Rel.setO {ws : va_W} {tys : List (ClassId × FieldType)} {h : am_H} (hR : am_Rel ws tys h) {q0 a : Nat} {e0 : va_E} {o : Nat × List Value} (hq : ws[q0]? = some (a, e0)) : am_Rel (ws.set q0 (a, .inr o)) tys (am_set h a (.inr o)) := by
  intro b e hb
  unfold am_set at hb
  split at hb
  · rename_i z
    subst z
    cases hb
    exact ⟨q0, am_set_self ws hq⟩
  · rename_i z
    exact (hR b e hb).set hq z
theorem am_Rel.setA {ws : va_W} {tys : List (ClassId × FieldType)} {h : am_H} (hR : am_Rel ws tys h) {q0 a t0 : Nat} {e0 : va_E} {cA : ClassId} {ty : FieldType} {x : vp_A} (hq : ws[q0]? = some (a, e0)) (ht : tys[t0]? = some (cA, ty)) : am_Rel (ws.set q0 (a, .inl (cA, x))) tys (am_set h a (.inl (ty, x))) := by
  intro b e hb
  unfold am_set at hb
  split at hb
  · rename_i z
    subst z
    cases hb
    exact ⟨q0, t0, cA, am_set_self ws hq, ht⟩
  · rename_i z
    exact (hR b e hb).set hq z
theorem am_in.app {ws w1 : va_W} {tys t1 : List (ClassId × FieldType)} {b : Nat} {e : am_E} (h : am_in ws tys b e) : am_in (ws ++ w1) (tys ++ t1) b e := by
  have k1 : ∀ (q : Nat) (x : Nat × va_E), ws[q]? = some x → (ws ++ w1)[q]? = some x := fun q x h1 => by
    rw [List.getElem?_append_left (List.getElem?_eq_some_iff.mp h1).1]; exact h1
  have k2 : ∀ (q : Nat) (x : ClassId × FieldType), tys[q]? = some x → (tys ++ t1)[q]? = some x := fun q x h1 => by
    rw [List.getElem?_append_left (List.getElem?_eq_some_iff.mp h1).1]; exact h1
  cases e with
  | inl x => obtain ⟨q, t, cA, h1, h2⟩ := h; exact ⟨q, t, cA, k1 q _ h1, k2 t _ h2⟩
  | inr o => obtain ⟨q, h1⟩ := h; exact ⟨q, k1 q _ h1⟩
theorem am_last {α : Type} (l : List α) (x : α) : (l ++ [x])[l.length]? = some x := by
  rw [List.getElem?_append_right (Nat.le_refl _), Nat.sub_self]; rfl
theorem am_Rel.pushO {ws : va_W} {tys : List (ClassId × FieldType)} {h : am_H} (hR : am_Rel ws tys h) {q : Nat} {o : Nat × List Value} : am_Rel (ws ++ [(q, .inr o)]) tys (am_set h q (.inr o)) := by
  intro b e hb
  unfold am_set at hb
  split at hb
  · rename_i z
    subst z
    cases hb
    exact ⟨ws.length, am_last _ _⟩
  · have := (hR b e hb).app (w1 := [(q, .inr o)]) (t1 := [])
    rwa [List.append_nil] at this
theorem am_Rel.pushA {ws : va_W} {tys : List (ClassId × FieldType)} {h : am_H} (hR : am_Rel ws tys h) {q : Nat} {cA : ClassId} {ty : FieldType} {x : vp_A} : am_Rel (ws ++ [(q, .inl (cA, x))]) (tys ++ [(cA, ty)]) (am_set h q (.inl (ty, x))) := by
  intro b e hb
  unfold am_set at hb
  split at hb
  · rename_i z
    subst z
    cases hb
    exact ⟨ws.length, tys.length, cA, am_last _ _, am_last _ _⟩
  · exact (hR b e hb).app
/-- a new cell's address is none of those that the abstract heap knows -/
theorem am_Rel.fresh {ws : va_W} {tys : List (ClassId × FieldType)} {h : am_H} (hR : am_Rel ws tys h) {A : Nat → Prop} {q : Nat} {e1 : va_E} (hD : va_D A (ws ++ [(q, e1)])) : h q = none := by
  cases hq : h q with
  | none => rfl
  | some e =>
    obtain ⟨k, e', hk⟩ := (hR q e hq).place
    have h1 : (ws ++ [(q, e1)])[k]? = some (q, e') := by
      rw [List.getElem?_append_left (List.getElem?_eq_some_iff.mp hk).1]; exact hk
    have h2 := hD.1 k ws.length _ _ h1 (am_last ws (q, e1)) rfl
    have h3 := (List.getElem?_eq_some_iff.mp hk).1
    omega
/-- what the machine's heap H says of the abstract one -/
def am_Sd (B : Nat) (D : va_G) (h : am_H) (s : State) (H : Heap) : Prop :=
  ∃ (ws : va_W) (tys : List (ClassId × FieldType)), am_Rel ws tys h ∧ va_P D pg_classes ws H ∧ va_D (fun q => B ≤ q) ws ∧ va_K D pg_classes tys s
theorem am_Sd.moved {B : Nat} {D : va_G} {h : am_H} {s U : State} {H : Heap} (hvm : s.vm.Alike U.vm) (q : am_Sd B D h s H) : am_Sd B D h U H := by
  obtain ⟨ws, tys, h1, h2, h3, h4⟩ := q
  exact ⟨ws, tys, h1, h2, h3, va_K.moved hvm h4⟩
theorem am_Sd.kept {B : Nat} {D : va_G} {h : am_H} {s : State} {H H1 : Heap} (q : am_Sd B D h s H) (hk : ∀ a : Nat, a < H.size → H1[a]? = H[a]?) : am_Sd B D h s H1 := by
  obtain ⟨ws, tys, h1, h2, h3, h4⟩ := q
  exact ⟨ws, tys, h1, h2.kept (fun k x hx => hk x.1 ((h2 k x hx).lt)), h3, h4⟩
