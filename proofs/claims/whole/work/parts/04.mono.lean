-- the machine's step grows with what it leads to
theorem am_br.mono {c A B A' B' : Prop} (hA : A → A') (hB : B → B') : am_br c A B → am_br c A' B' := fun h => ⟨fun q => hA (h.1 q), fun q => hB (h.2 q)⟩
theorem am_li.mono {lv : am_L} {n : Nat} {F F' : Int32 → Prop} (hF : ∀ a, F a → F' a) : am_li lv n F → am_li lv n F' := by
  unfold am_li; intro h; split at h
  · exact hF _ h
  · exact h.elim
theorem am_ll.mono {lv : am_L} {n : Nat} {F F' : Int64 → Prop} (hF : ∀ a, F a → F' a) : am_ll lv n F → am_ll lv n F' := by
  unfold am_ll; intro h; split at h
  · exact hF _ h
  · exact h.elim
theorem am_la.mono {lv : am_L} {n : Nat} {F F' : Value → Prop} (hF : ∀ a, F a → F' a) : am_la lv n F → am_la lv n F' := by
  unfold am_la; intro h; split at h
  · exact hF _ h
  · exact hF _ h
  · exact h.elim
theorem am_si.mono {st : List Value} {F F' : Int32 → List Value → Prop} (hF : ∀ a r, F a r → F' a r) : am_si st F → am_si st F' := by
  unfold am_si; intro h; split at h
  · exact hF _ _ h
  · exact h.elim
theorem am_sl.mono {st : List Value} {F F' : Int64 → List Value → Prop} (hF : ∀ a r, F a r → F' a r) : am_sl st F → am_sl st F' := by
  unfold am_sl; intro h; split at h
  · exact hF _ _ h
  · exact h.elim
theorem am_sa.mono {st : List Value} {F F' : Value → List Value → Prop} (hF : ∀ a r, F a r → F' a r) : am_sa st F → am_sa st F' := by
  unfold am_sa; intro h; split at h
  · exact hF _ _ h
  · exact hF _ _ h
  · exact h.elim
theorem am_sr.mono {st : List Value} {F F' : Nat → List Value → Prop} (hF : ∀ a r, F a r → F' a r) : am_sr st F → am_sr st F' := by
  unfold am_sr; intro h; split at h
  · exact hF _ _ h
  · exact h.elim
theorem am_sv.mono {st : List Value} {F F' : Value → List Value → Prop} (hF : ∀ a r, F a r → F' a r) : am_sv st F → am_sv st F' := by
  unfold am_sv; intro h; split at h
  · exact hF _ _ h
  · exact h.elim
theorem am_ii.mono {st : List Value} {F F' : Int32 → Int32 → List Value → Prop} (hF : ∀ a b r, F a b r → F' a b r) : am_ii st F → am_ii st F' := by
  unfold am_ii; intro h; split at h
  · exact hF _ _ _ h
  · exact h.elim
theorem am_lll.mono {st : List Value} {F F' : Int64 → Int64 → List Value → Prop} (hF : ∀ a b r, F a b r → F' a b r) : am_lll st F → am_lll st F' := by
  unfold am_lll; intro h; split at h
  · exact hF _ _ _ h
  · exact h.elim
theorem am_lsh.mono {st : List Value} {F F' : Int64 → Int32 → List Value → Prop} (hF : ∀ a b r, F a b r → F' a b r) : am_lsh st F → am_lsh st F' := by
  unfold am_lsh; intro h; split at h
  · exact hF _ _ _ h
  · exact h.elim
theorem am_ia.mono {st : List Value} {F F' : Nat → Int32 → List Value → Prop} (hF : ∀ a b r, F a b r → F' a b r) : am_ia st F → am_ia st F' := by
  unfold am_ia; intro h; split at h
  · exact hF _ _ _ h
  · exact h.elim
theorem am_via.mono {st : List Value} {F F' : Nat → Int32 → Value → List Value → Prop} (hF : ∀ a b v r, F a b v r → F' a b v r) : am_via st F → am_via st F' := by
  unfold am_via; intro h; split at h
  · exact hF _ _ _ _ h
  · exact h.elim
theorem am_ob.mono {g : am_H} {a ci : Nat} {F F' : List Value → Prop} (hF : ∀ r, F r → F' r) : am_ob g a ci F → am_ob g a ci F' := by
  unfold am_ob; intro h; split at h
  · exact ⟨h.1, hF _ h.2⟩
  · exact h.elim
theorem am_ai.mono {g : am_H} {a : Nat} {ty : FieldType} {F F' : Nat → (Nat → Int32) → Prop} (hF : ∀ n f, F n f → F' n f) : am_ai g a ty F → am_ai g a ty F' := by
  unfold am_ai; intro h; split at h
  · exact ⟨h.1, hF _ _ h.2⟩
  · exact h.elim
theorem am_al.mono {g : am_H} {a : Nat} {F F' : Nat → (Nat → Int64) → Prop} (hF : ∀ n f, F n f → F' n f) : am_al g a F → am_al g a F' := by
  unfold am_al; intro h; split at h
  · exact ⟨h.1, hF _ _ h.2⟩
  · exact h.elim
theorem am_aa.mono {g : am_H} {a : Nat} {F F' : String → Nat → (Nat → Option Nat) → Prop} (hF : ∀ C n f, F C n f → F' C n f) : am_aa g a F → am_aa g a F' := by
  unfold am_aa; intro h; split at h
  · exact hF _ _ _ h
  · exact h.elim
theorem am_an.mono {g : am_H} {a : Nat} {F F' : Nat → Prop} (hF : ∀ n, F n → F' n) : am_an g a F → am_an g a F' := by
  unfold am_an; intro h; split at h
  · exact hF _ h
  · exact h.elim
theorem am_opt.mono {α : Type} {o : Option α} {F F' : α → Prop} (hF : ∀ v, F v → F' v) : am_opt o F → am_opt o F' := by
  unfold am_opt; intro h; split at h
  · exact hF _ h
  · exact h.elim
theorem am_st5.mono {st : List Value} {F F' : Nat → Int32 → Nat → Int32 → Int32 → List Value → Prop} (hF : ∀ a b c d e r, F a b c d e r → F' a b c d e r) : am_st5 st F → am_st5 st F' := by
  unfold am_st5; intro h; split at h
  · exact hF _ _ _ _ _ _ h
  · exact h.elim
theorem am_copy.mono {g : am_H} {a0 a1 : Nat} {sp dp n : Int32} {F F' : am_H → Prop} (hF : ∀ h, F h → F' h) : am_copy g a0 sp a1 dp n F → am_copy g a0 sp a1 dp n F' := by
  unfold am_copy; intro h; split at h
  · exact ⟨h.1, hF _ h.2⟩
  · exact ⟨h.1, hF _ h.2⟩
  · exact h.elim
def am_mono (C : am_C) : Prop := ∀ (x : Nat) (vs : List Value) (h : am_H) (K K' : am_K), (∀ r h, K r h → K' r h) → C x vs h K → C x vs h K'
section
variable {G : am_G} {C : am_C} {k : Nat} {K K' : am_K} {X X' : am_X}
theorem am_back.mono (hX : ∀ pc lv st h nc ns, X pc lv st h nc ns → X' pc lv st h nc ns) (hK : ∀ r h, K r h → K' r h) {x pc : Nat} {lv : am_L} {rest : List Value} {nc ns : Nat} : ∀ r h, am_back k K X x pc lv rest nc ns r h → am_back k K' X' x pc lv rest nc ns r h := by
  intro r h
  unfold am_back
  cases r with
  | inl v => exact hX _ _ _ _ _ _
  | inr E =>
    dsimp only
    cases pg_hnd k pc E with
    | none => exact And.imp_right (hK _ _)
    | some t => exact fun q a => hX _ _ _ _ _ _ (q a)
theorem am_call.mono (hC : am_mono C) (hX : ∀ pc lv st h nc ns, X pc lv st h nc ns → X' pc lv st h nc ns) (hK : ∀ r h, K r h → K' r h) {x y pc : Nat} {lv : am_L} {st : List Value} {h : am_H} {nc ns : Nat} : am_call C k K X x y pc lv st h nc ns → am_call C k K' X' x y pc lv st h nc ns := by
  unfold am_call
  exact And.imp_right (hC _ _ _ _ _ (am_back.mono hX hK))
theorem am_inv.mono (hC : am_mono C) (hX : ∀ pc lv st h nc ns, X pc lv st h nc ns → X' pc lv st h nc ns) (hK : ∀ r h, K r h → K' r h) {x y pc : Nat} {lv : am_L} {st : List Value} {h : am_H} {nc ns : Nat} : am_inv C k K X x y pc lv st h nc ns → am_inv C k K' X' x y pc lv st h nc ns := by
  unfold am_inv
  split
  · exact am_sr.mono fun _ _ => And.imp_right (hX _ _ _ _ _ _)
  · exact am_st5.mono fun _ _ _ _ _ _ => And.imp_right (am_copy.mono fun _ => hX _ _ _ _ _ _)
  · exact am_ii.mono fun _ _ _ => And.imp_right (hX _ _ _ _ _ _)
  · exact am_ii.mono fun _ _ _ => And.imp_right (hX _ _ _ _ _ _)
  · exact am_lll.mono fun _ _ _ => And.imp_right (hX _ _ _ _ _ _)
  · exact am_call.mono hC hX hK
theorem am_new.mono (hX : ∀ pc lv st h nc ns, X pc lv st h nc ns → X' pc lv st h nc ns) (hK : ∀ r h, K r h → K' r h) {x pc : Nat} {lv : am_L} {st : List Value} {h : am_H} {nc ns : Nat} : am_new k K X x pc lv st h nc ns → am_new k K' X' x pc lv st h nc ns := by
  unfold am_new
  split
  · exact And.imp_right (fun f q hq => hX _ _ _ _ _ _ (f q hq))
  · exact And.imp_right (hK _ _)
set_option maxHeartbeats 2000000 in
theorem am_ins.mono (hC : am_mono C) (hX : ∀ pc lv st h nc ns, X pc lv st h nc ns → X' pc lv st h nc ns) (hK : ∀ r h, K r h → K' r h) {i : Instr} {x y pc : Nat} {lv : am_L} {st : List Value} {h : am_H} {nc ns : Nat} : am_ins G C k K X i x y pc lv st h nc ns → am_ins G C k K' X' i x y pc lv st h nc ns := by
  cases i <;> simp only [am_ins] <;> first
    | exact False.elim
    | exact hX _ _ _ _ _ _
    | exact am_li.mono fun _ => hX _ _ _ _ _ _
    | exact am_ll.mono fun _ => hX _ _ _ _ _ _
    | exact am_la.mono fun _ => hX _ _ _ _ _ _
    | exact am_li.mono fun _ => And.imp_right (hX _ _ _ _ _ _)
    | exact am_si.mono fun _ _ => hX _ _ _ _ _ _
    | exact am_si.mono fun _ _ => And.imp_right (hX _ _ _ _ _ _)
    | exact am_sl.mono fun _ _ => And.imp_right (hX _ _ _ _ _ _)
    | exact am_sa.mono fun _ _ => And.imp_right (hX _ _ _ _ _ _)
    | exact am_ii.mono fun _ _ _ => hX _ _ _ _ _ _
    | exact am_ii.mono fun _ _ _ => And.imp_right (hX _ _ _ _ _ _)
    | exact am_lll.mono fun _ _ _ => hX _ _ _ _ _ _
    | exact am_lll.mono fun _ _ _ => And.imp_right (hX _ _ _ _ _ _)
    | exact am_lsh.mono fun _ _ _ => hX _ _ _ _ _ _
    | exact am_sv.mono fun _ _ => And.imp_right (hX _ _ _ _ _ _)
    | exact am_sv.mono fun _ _ => am_sv.mono fun _ _ => And.imp_right (And.imp_right (hX _ _ _ _ _ _))
    | exact am_si.mono fun _ _ => am_br.mono (hX _ _ _ _ _ _) (hX _ _ _ _ _ _)
    | exact am_ii.mono fun _ _ _ => am_br.mono (hX _ _ _ _ _ _) (hX _ _ _ _ _ _)
    | exact am_sr.mono fun _ _ => am_ob.mono fun _ => am_opt.mono fun _ => hX _ _ _ _ _ _
    | exact am_sv.mono fun _ _ => am_sr.mono fun _ _ => am_ob.mono fun _ => And.imp_right (hX _ _ _ _ _ _)
    | (split
       · exact am_ia.mono fun _ _ _ => And.imp_right (hX _ _ _ _ _ _)
       · exact am_ia.mono fun _ _ _ => am_ai.mono fun _ _ => And.imp_right (hX _ _ _ _ _ _))
    | exact am_ia.mono fun _ _ _ => am_ai.mono fun _ _ => And.imp_right (hX _ _ _ _ _ _)
    | exact am_ia.mono fun _ _ _ => am_al.mono fun _ _ => And.imp_right (hX _ _ _ _ _ _)
    | exact am_ia.mono fun _ _ _ => am_aa.mono fun _ _ _ => And.imp_right (hX _ _ _ _ _ _)
    | exact am_via.mono fun _ _ _ _ => am_ai.mono fun _ _ => am_si.mono fun _ _ => And.imp_right (hX _ _ _ _ _ _)
    | exact am_via.mono fun _ _ _ _ => am_al.mono fun _ _ => am_sl.mono fun _ _ => And.imp_right (hX _ _ _ _ _ _)
    | exact am_via.mono fun _ _ _ _ => am_aa.mono fun _ _ _ => am_sr.mono fun _ _ => am_ob.mono fun _ => And.imp_right (hX _ _ _ _ _ _)
    | (split
       · exact am_sr.mono fun _ _ => And.imp_right (hX _ _ _ _ _ _)
       · exact am_sr.mono fun _ _ => am_an.mono fun _ => hX _ _ _ _ _ _)
    | exact am_new.mono hX hK
    | exact am_si.mono fun _ _ => And.imp_right (am_opt.mono fun _ f q hq => hX _ _ _ _ _ _ (f q hq))
    | exact am_si.mono fun _ _ => And.imp_right (fun f q hq => hX _ _ _ _ _ _ (f q hq))
    | exact am_inv.mono hC hX hK
    | exact am_si.mono fun _ _ => And.imp_right (hK _ _)
    | exact am_sl.mono fun _ _ => And.imp_right (hK _ _)
    | exact am_sa.mono fun _ _ => And.imp_right (hK _ _)
    | exact And.imp_right (hK _ _)
theorem am_step.mono (hC : am_mono C) (hX : ∀ pc lv st h nc ns, X pc lv st h nc ns → X' pc lv st h nc ns) (hK : ∀ r h, K r h → K' r h) {pc : Nat} {lv : am_L} {st : List Value} {h : am_H} {nc ns : Nat} : am_step G C k K X pc lv st h nc ns → am_step G C k K' X' pc lv st h nc ns := by
  unfold am_step
  split
  · exact am_ins.mono hC hX hK
  · exact False.elim
theorem am_W.mono (hC : am_mono C) (hK : ∀ r h, K r h → K' r h) {pc : Nat} {lv : am_L} {st : List Value} {h : am_H} {nc ns : Nat} : am_W G C k K pc lv st h nc ns → am_W G C k K' pc lv st h nc ns :=
  fun q Y hY => q Y fun _ _ _ _ _ _ t => hY _ _ _ _ _ _ (am_step.mono hC (fun _ _ _ _ _ _ a => a) hK t)
/-- a state out of those behind it -/
theorem am_W.fold (hC : am_mono C) {pc : Nat} {lv : am_L} {st : List Value} {h : am_H} {nc ns : Nat} (q : am_step G C k K (am_W G C k K) pc lv st h nc ns) : am_W G C k K pc lv st h nc ns :=
  fun Y hY => hY _ _ _ _ _ _ (am_step.mono hC (fun _ _ _ _ _ _ a => a Y hY) (fun _ _ a => a) q)
end
theorem am_M.mono (G : am_G) : ∀ d, am_mono (am_M G d)
  | 0 => fun _ _ _ _ _ _ q => q.elim
  | d + 1 => fun _ _ _ _ _ hK q => ⟨q.1, am_W.mono (am_M.mono G d) hK q.2⟩
