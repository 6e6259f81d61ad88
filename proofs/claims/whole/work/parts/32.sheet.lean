-- the class's Sheet: its object at place s, its formulas at f, its other rows from t on
abbrev Sl : Type := ((Nat → Int32) × (Nat → Int32) × (Nat → Int32)) × (Nat → Int64) × (Nat → Int32) × (Nat → Int32) × (Nat → Int64) × ((Nat → Int32) × (Nat → Int32) × (Nat → Int32)) × (Nat → Int32) × (Nat → Int64) × (Nat → Int64)
def sl_o (z : Sl) : Nat → Int32 := z.1.1
def sl_a (z : Sl) : Nat → Int32 := z.1.2.1
def sl_b (z : Sl) : Nat → Int32 := z.1.2.2
def sl_src (z : Sl) : Nat → Int64 := z.2.1
def sl_told (z : Sl) : Nat → Int32 := z.2.2.1
def sl_st (z : Sl) : Nat → Int32 := z.2.2.2.1
def sl_num (z : Sl) : Nat → Int64 := z.2.2.2.2.1
def sl_wo (z : Sl) : Nat → Int32 := z.2.2.2.2.2.1.1
def sl_wa (z : Sl) : Nat → Int32 := z.2.2.2.2.2.1.2.1
def sl_wb (z : Sl) : Nat → Int32 := z.2.2.2.2.2.1.2.2
def sl_wt (z : Sl) : Nat → Int32 := z.2.2.2.2.2.2.1
def sl_wf (z : Sl) : Nat → Int64 := z.2.2.2.2.2.2.2.1
def sl_ws (z : Sl) : Nat → Int64 := z.2.2.2.2.2.2.2.2
def sl_F (z : Sl) (o a b : Nat → Int32) : Sl := ((o, a, b), z.2)
def sl_W (z : Sl) (o a b : Nat → Int32) : Sl := (z.1, z.2.1, z.2.2.1, z.2.2.2.1, z.2.2.2.2.1, (o, a, b), z.2.2.2.2.2.2)
def sl_src' (z : Sl) (x : Nat → Int64) : Sl := (z.1, x, z.2.2)
def sl_told' (z : Sl) (x : Nat → Int32) : Sl := (z.1, z.2.1, x, z.2.2.2)
def sl_st' (z : Sl) (x : Nat → Int32) : Sl := (z.1, z.2.1, z.2.2.1, x, z.2.2.2.2)
def sl_num' (z : Sl) (x : Nat → Int64) : Sl := (z.1, z.2.1, z.2.2.1, z.2.2.2.1, x, z.2.2.2.2.2)
def sl_wt' (z : Sl) (x : Nat → Int32) : Sl := (z.1, z.2.1, z.2.2.1, z.2.2.2.1, z.2.2.2.2.1, z.2.2.2.2.2.1, x, z.2.2.2.2.2.2.2)
def sl_wf' (z : Sl) (x : Nat → Int64) : Sl := (z.1, z.2.1, z.2.2.1, z.2.2.2.1, z.2.2.2.2.1, z.2.2.2.2.2.1, z.2.2.2.2.2.2.1, x, z.2.2.2.2.2.2.2.2)
def sl_ws' (z : Sl) (x : Nat → Int64) : Sl := (z.1, z.2.1, z.2.2.1, z.2.2.2.1, z.2.2.2.2.1, z.2.2.2.2.2.1, z.2.2.2.2.2.2.1, z.2.2.2.2.2.2.2.1, x)
/-- a row of booleans -/
def isZ (f : Nat → Int32) : Prop := ∀ i, f i = 0 ∨ f i = 1
def okP (s f t : Nat) : Prop := (s < f ∨ f + 4 ≤ s) ∧ (s < t ∨ t + 11 ≤ s) ∧ (f + 4 ≤ t ∨ t + 11 ≤ f)
/-- the places of a sheet -/
def inSH (s f t p : Nat) : Prop := p = s ∨ (f ≤ p ∧ p < f + 4) ∨ (t ≤ p ∧ p < t + 11)
def SHo (ad : Nat → Nat) (f t m : Nat) : Option am_E := some (.inr (5, [.ref (ad f), .ref (ad t), .int (nI m), .ref (ad (t + 1)), .ref (ad (t + 2)), .ref (ad (t + 3)), .ref (ad (t + 4)), .ref (ad (t + 8)), .ref (ad (t + 9)), .ref (ad (t + 10))]))
/-- n cells, m sources, w cells in workedBy -/
def SH (ad : Nat → Nat) (h : am_H) (s f t n m w : Nat) (z : Sl) : Prop :=
  okP s f t ∧ FO ad h f n (sl_o z) (sl_a z) (sl_b z) ∧ FO ad h (t + 4) w (sl_wo z) (sl_wa z) (sl_wb z) ∧ h (ad s) = SHo ad f t m ∧
  h (ad t) = some (.inl (.long, 60, .inr (.inl (sl_src z)))) ∧ h (ad (t + 1)) = some (.inl (.boolean, 150, .inl (sl_told z))) ∧ h (ad (t + 2)) = some (.inl (.int, 150, .inl (sl_st z))) ∧ h (ad (t + 3)) = some (.inl (.long, 150, .inr (.inl (sl_num z)))) ∧
  h (ad (t + 8)) = some (.inl (.boolean, 150, .inl (sl_wt z))) ∧ h (ad (t + 9)) = some (.inl (.long, 150, .inr (.inl (sl_wf z)))) ∧ h (ad (t + 10)) = some (.inl (.long, 150, .inr (.inl (sl_ws z)))) ∧ isZ (sl_told z) ∧ isZ (sl_wt z)
theorem isZ.fit {f : Nat → Int32} (h : isZ f) (i : Nat) : fits .boolean (.int (f i)) = true := by
  rcases h i with e | e <;> rw [e] <;> decide
theorem isZ.cpy {f g : Nat → Int32} (hf : isZ f) (hg : isZ g) (a b c : Nat) : isZ (va_cpy f g a b c) := by
  intro i
  unfold va_cpy
  split
  · exact hf _
  · exact hg _
theorem isZ.upd {f : Nat → Int32} (hf : isZ f) (j : Nat) {b : Int32} (hb : b = 0 ∨ b = 1) : isZ (upd f j b) := by
  intro i
  by_cases e : i = j
  · subst e; rw [pk_us]; exact hb
  · rw [pk_un e]; exact hf i
section SHs
variable {ad : Nat → Nat} {h h' : am_H} {s f t n m w : Nat} {z : Sl}
theorem SH.frame (hS : SH ad h s f t n m w z) (hk : ∀ p, inSH s f t p → h' (ad p) = h (ad p)) : SH ad h' s f t n m w z := by
  obtain ⟨ho, h1, h2, h3, h4, h5, h6, h7, h8, h9, h10, h11⟩ := hS
  have T : ∀ j, j < 11 → h' (ad (t + j)) = h (ad (t + j)) := fun j hj => hk _ (Or.inr (Or.inr ⟨by omega, by omega⟩))
  exact ⟨ho, h1.frame (fun p a b => hk p (Or.inr (Or.inl ⟨a, b⟩))), h2.frame (fun p a b => hk p (Or.inr (Or.inr ⟨by omega, by omega⟩))), (hk _ (Or.inl rfl)).trans h3, (T 0 (by decide)).trans h4, (T 1 (by decide)).trans h5, (T 2 (by decide)).trans h6, (T 3 (by decide)).trans h7, (T 8 (by decide)).trans h8, (T 9 (by decide)).trans h9, (T 10 (by decide)).trans h10, h11⟩
theorem SH.other (hi : am_inj ad) (hS : SH ad h s f t n m w z) {p : Nat} {e : am_E} (hp : ¬ inSH s f t p) : SH ad (am_set h (ad p) e) s f t n m w z := hS.frame (fun q hq => s_ne hi (fun z9 => hp (z9 ▸ hq)))
theorem SH.set_src (hi : am_inj ad) (hS : SH ad h s f t n m w z) (X : Nat → Int64) : SH ad (am_set h (ad t) (.inl (.long, 60, .inr (.inl X)))) s f t n m w (sl_src' z X) := by
  obtain ⟨⟨p1, p2, p3⟩, h1, h2, h3, h4, h5, h6, h7, h8, h9, h10, h11, h12⟩ := hS
  exact ⟨⟨p1, p2, p3⟩, h1.frame (fun p a b => s_ne hi (by omega)), h2.frame (fun p a b => s_ne hi (by omega)), (s_ne hi (by omega)).trans h3, s_eq, (s_ne hi (by omega)).trans h5, (s_ne hi (by omega)).trans h6, (s_ne hi (by omega)).trans h7, (s_ne hi (by omega)).trans h8, (s_ne hi (by omega)).trans h9, (s_ne hi (by omega)).trans h10, h11, h12⟩
theorem SH.set_told (hi : am_inj ad) (hS : SH ad h s f t n m w z) (X : Nat → Int32) (hX : isZ X) : SH ad (am_set h (ad (t + 1)) (.inl (.boolean, 150, .inl X))) s f t n m w (sl_told' z X) := by
  obtain ⟨⟨p1, p2, p3⟩, h1, h2, h3, h4, h5, h6, h7, h8, h9, h10, h11, h12⟩ := hS
  exact ⟨⟨p1, p2, p3⟩, h1.frame (fun p a b => s_ne hi (by omega)), h2.frame (fun p a b => s_ne hi (by omega)), (s_ne hi (by omega)).trans h3, (s_ne hi (by omega)).trans h4, s_eq, (s_ne hi (by omega)).trans h6, (s_ne hi (by omega)).trans h7, (s_ne hi (by omega)).trans h8, (s_ne hi (by omega)).trans h9, (s_ne hi (by omega)).trans h10, hX, h12⟩
theorem SH.set_st (hi : am_inj ad) (hS : SH ad h s f t n m w z) (X : Nat → Int32) : SH ad (am_set h (ad (t + 2)) (.inl (.int, 150, .inl X))) s f t n m w (sl_st' z X) := by
  obtain ⟨⟨p1, p2, p3⟩, h1, h2, h3, h4, h5, h6, h7, h8, h9, h10, h11, h12⟩ := hS
  exact ⟨⟨p1, p2, p3⟩, h1.frame (fun p a b => s_ne hi (by omega)), h2.frame (fun p a b => s_ne hi (by omega)), (s_ne hi (by omega)).trans h3, (s_ne hi (by omega)).trans h4, (s_ne hi (by omega)).trans h5, s_eq, (s_ne hi (by omega)).trans h7, (s_ne hi (by omega)).trans h8, (s_ne hi (by omega)).trans h9, (s_ne hi (by omega)).trans h10, h11, h12⟩
theorem SH.set_num (hi : am_inj ad) (hS : SH ad h s f t n m w z) (X : Nat → Int64) : SH ad (am_set h (ad (t + 3)) (.inl (.long, 150, .inr (.inl X)))) s f t n m w (sl_num' z X) := by
  obtain ⟨⟨p1, p2, p3⟩, h1, h2, h3, h4, h5, h6, h7, h8, h9, h10, h11, h12⟩ := hS
  exact ⟨⟨p1, p2, p3⟩, h1.frame (fun p a b => s_ne hi (by omega)), h2.frame (fun p a b => s_ne hi (by omega)), (s_ne hi (by omega)).trans h3, (s_ne hi (by omega)).trans h4, (s_ne hi (by omega)).trans h5, (s_ne hi (by omega)).trans h6, s_eq, (s_ne hi (by omega)).trans h8, (s_ne hi (by omega)).trans h9, (s_ne hi (by omega)).trans h10, h11, h12⟩
theorem SH.set_wt (hi : am_inj ad) (hS : SH ad h s f t n m w z) (X : Nat → Int32) (hX : isZ X) : SH ad (am_set h (ad (t + 8)) (.inl (.boolean, 150, .inl X))) s f t n m w (sl_wt' z X) := by
  obtain ⟨⟨p1, p2, p3⟩, h1, h2, h3, h4, h5, h6, h7, h8, h9, h10, h11, h12⟩ := hS
  exact ⟨⟨p1, p2, p3⟩, h1.frame (fun p a b => s_ne hi (by omega)), h2.frame (fun p a b => s_ne hi (by omega)), (s_ne hi (by omega)).trans h3, (s_ne hi (by omega)).trans h4, (s_ne hi (by omega)).trans h5, (s_ne hi (by omega)).trans h6, (s_ne hi (by omega)).trans h7, s_eq, (s_ne hi (by omega)).trans h9, (s_ne hi (by omega)).trans h10, h11, hX⟩
theorem SH.set_wf (hi : am_inj ad) (hS : SH ad h s f t n m w z) (X : Nat → Int64) : SH ad (am_set h (ad (t + 9)) (.inl (.long, 150, .inr (.inl X)))) s f t n m w (sl_wf' z X) := by
  obtain ⟨⟨p1, p2, p3⟩, h1, h2, h3, h4, h5, h6, h7, h8, h9, h10, h11, h12⟩ := hS
  exact ⟨⟨p1, p2, p3⟩, h1.frame (fun p a b => s_ne hi (by omega)), h2.frame (fun p a b => s_ne hi (by omega)), (s_ne hi (by omega)).trans h3, (s_ne hi (by omega)).trans h4, (s_ne hi (by omega)).trans h5, (s_ne hi (by omega)).trans h6, (s_ne hi (by omega)).trans h7, (s_ne hi (by omega)).trans h8, s_eq, (s_ne hi (by omega)).trans h10, h11, h12⟩
theorem SH.set_ws (hi : am_inj ad) (hS : SH ad h s f t n m w z) (X : Nat → Int64) : SH ad (am_set h (ad (t + 10)) (.inl (.long, 150, .inr (.inl X)))) s f t n m w (sl_ws' z X) := by
  obtain ⟨⟨p1, p2, p3⟩, h1, h2, h3, h4, h5, h6, h7, h8, h9, h10, h11, h12⟩ := hS
  exact ⟨⟨p1, p2, p3⟩, h1.frame (fun p a b => s_ne hi (by omega)), h2.frame (fun p a b => s_ne hi (by omega)), (s_ne hi (by omega)).trans h3, (s_ne hi (by omega)).trans h4, (s_ne hi (by omega)).trans h5, (s_ne hi (by omega)).trans h6, (s_ne hi (by omega)).trans h7, (s_ne hi (by omega)).trans h8, (s_ne hi (by omega)).trans h9, s_eq, h11, h12⟩
theorem SH.set_m (hi : am_inj ad) (hS : SH ad h s f t n m w z) (m' : Nat) : SH ad (am_set h (ad s) (.inr (5, [.ref (ad f), .ref (ad t), .int (nI m'), .ref (ad (t + 1)), .ref (ad (t + 2)), .ref (ad (t + 3)), .ref (ad (t + 4)), .ref (ad (t + 8)), .ref (ad (t + 9)), .ref (ad (t + 10))]))) s f t n m' w z := by
  obtain ⟨⟨p1, p2, p3⟩, h1, h2, h3, h4, h5, h6, h7, h8, h9, h10, h11, h12⟩ := hS
  exact ⟨⟨p1, p2, p3⟩, h1.frame (fun p a b => s_ne hi (by omega)), h2.frame (fun p a b => s_ne hi (by omega)), s_eq, (s_ne hi (by omega)).trans h4, (s_ne hi (by omega)).trans h5, (s_ne hi (by omega)).trans h6, (s_ne hi (by omega)).trans h7, (s_ne hi (by omega)).trans h8, (s_ne hi (by omega)).trans h9, (s_ne hi (by omega)).trans h10, h11, h12⟩
theorem SH.set_F (hS : SH ad h s f t n m w z) {n' : Nat} {o a b : Nat → Int32} (hF : FO ad h' f n' o a b) (hk : ∀ p, (p < f ∨ f + 4 ≤ p) → h' (ad p) = h (ad p)) : SH ad h' s f t n' m w (sl_F z o a b) := by
  obtain ⟨⟨p1, p2, p3⟩, h1, h2, h3, h4, h5, h6, h7, h8, h9, h10, h11, h12⟩ := hS
  exact ⟨⟨p1, p2, p3⟩, hF, h2.frame (fun p a b => hk _ (by omega)), (hk _ (by omega)).trans h3, (hk _ (by omega)).trans h4, (hk _ (by omega)).trans h5, (hk _ (by omega)).trans h6, (hk _ (by omega)).trans h7, (hk _ (by omega)).trans h8, (hk _ (by omega)).trans h9, (hk _ (by omega)).trans h10, h11, h12⟩
theorem SH.set_W (hS : SH ad h s f t n m w z) {w' : Nat} {o a b : Nat → Int32} (hF : FO ad h' (t + 4) w' o a b) (hk : ∀ p, (p < t + 4 ∨ t + 4 + 4 ≤ p) → h' (ad p) = h (ad p)) : SH ad h' s f t n m w' (sl_W z o a b) := by
  obtain ⟨⟨p1, p2, p3⟩, h1, h2, h3, h4, h5, h6, h7, h8, h9, h10, h11, h12⟩ := hS
  exact ⟨⟨p1, p2, p3⟩, h1.frame (fun p a b => hk _ (by omega)), hF, (hk _ (by omega)).trans h3, (hk _ (by omega)).trans h4, (hk _ (by omega)).trans h5, (hk _ (by omega)).trans h6, (hk _ (by omega)).trans h7, (hk _ (by omega)).trans h8, (hk _ (by omega)).trans h9, (hk _ (by omega)).trans h10, h11, h12⟩
end SHs
/-- the first n cells and m sources of z', the rest of z -/
def sl_cpy (n m w : Nat) (z' z : Sl) : Sl := ((va_cpy (sl_o z') (sl_o z) 0 0 n, va_cpy (sl_a z') (sl_a z) 0 0 n, va_cpy (sl_b z') (sl_b z) 0 0 n), va_cpy (sl_src z') (sl_src z) 0 0 m, va_cpy (sl_told z') (sl_told z) 0 0 n, va_cpy (sl_st z') (sl_st z) 0 0 n, va_cpy (sl_num z') (sl_num z) 0 0 n, (va_cpy (sl_wo z') (sl_wo z) 0 0 w, va_cpy (sl_wa z') (sl_wa z) 0 0 w, va_cpy (sl_wb z') (sl_wb z) 0 0 w), va_cpy (sl_wt z') (sl_wt z) 0 0 n, va_cpy (sl_wf z') (sl_wf z) 0 0 n, va_cpy (sl_ws z') (sl_ws z) 0 0 n)
set_option maxHeartbeats 4000000 in
theorem c_stake {G : am_G} {d : Nat} {K : am_K} {h : am_H} {ad : Nat → Nat} (hi : am_inj ad) {s f t n m w s' f' t' n' m' w' : Nat} {z z' : Sl} (hS : SH ad h s f t n m w z) (hS' : SH ad h s' f' t' n' m' w' z') (hn : n' ≤ 150) (hm : m' ≤ 60) (hw' : w' ≤ 150) (hd : ∀ p, inSH s f t p → ¬ inSH s' f' t' p)
    (hk : ∀ h', SH ad h' s f t n' m' w' (sl_cpy n' m' w' z' z) → (∀ p, ¬ inSH s f t p → h' (ad p) = h (ad p)) → K (.inl none) h') : am_M G (d + 2) 9 [.ref (ad s), .ref (ad s')] h K := by
  refine n_9 (d := d + 1) ?_
  have hw : am_words [] ≤ 8 := by decide
  have hc : (nI n').toNatClampNeg = n' := nI_clamp (by omega)
  have hp : ¬ nI n' < 0 := nI_pos (by omega)
  have hcm : (nI m').toNatClampNeg = m' := nI_clamp (by omega)
  have hpm : ¬ nI m' < 0 := nI_pos (by omega)
  have hz : ¬ (0 : Int32) < 0 := by decide
  have iS : inSH s f t s := Or.inl rfl
  have iF : ∀ j, j < 4 → inSH s f t (f + j) := fun j hj => Or.inr (Or.inl ⟨by omega, by omega⟩)
  have iT : ∀ j, j < 11 → inSH s f t (t + j) := fun j hj => Or.inr (Or.inr ⟨by omega, by omega⟩)
  have hdj : ¬ (f + 4 ≤ f' ∨ f' + 4 ≤ f) → False := fun q => by
    by_cases c : f ≤ f'
    · exact hd f' (Or.inr (Or.inl ⟨c, by omega⟩)) (Or.inr (Or.inl ⟨by omega, by omega⟩))
    · exact hd f (Or.inr (Or.inl ⟨by omega, by omega⟩)) (Or.inr (Or.inl ⟨by omega, by omega⟩))
  have hdt : ¬ (t + 4 + 4 ≤ t' + 4 ∨ t' + 4 + 4 ≤ t + 4) → False := fun q => by
    by_cases c : t ≤ t'
    · exact hd (t' + 4) (Or.inr (Or.inr ⟨by omega, by omega⟩)) (Or.inr (Or.inr ⟨by omega, by omega⟩))
    · exact hd (t + 4) (Or.inr (Or.inr ⟨by omega, by omega⟩)) (Or.inr (Or.inr ⟨by omega, by omega⟩))
  have hnf : ∀ p, ¬ inSH s f t p → p ≠ s ∧ (p < f ∨ f + 4 ≤ p) ∧ (p < t ∨ t + 11 ≤ p) := fun p hp => ⟨fun q => hp (Or.inl q), Decidable.byContradiction fun q => hp (Or.inr (Or.inl ⟨by omega, by omega⟩)), Decidable.byContradiction fun q => hp (Or.inr (Or.inr ⟨by omega, by omega⟩))⟩
  simp only [u_9_0, u_9_1, u_9_4, u_9_7, u_9_8, u_9_9, u_9_10, u_9_13, u_9_16, u_9_17, u_9_20, u_9_21, u_9_22, u_9_25, u_9_26, u_9_27, u_9_30, u_9_33, u_9_34, u_9_37, u_9_38, u_9_41, u_9_44, u_9_45, u_9_48, u_9_49, u_9_50, u_9_53, u_9_54, u_9_55, u_9_58, u_9_59, u_9_62, u_9_63, u_9_64, u_9_67, u_9_68, u_9_69, u_9_72, u_9_73, u_9_76, u_9_77, u_9_78, u_9_81, u_9_82, u_9_83, u_9_86, u_9_87, u_9_90, u_9_91, u_9_94, u_9_97, u_9_98, u_9_101, u_9_102, u_9_103, u_9_106, u_9_107, u_9_108, u_9_111, u_9_112, u_9_115, u_9_116, u_9_117, u_9_120, u_9_121, u_9_122, u_9_125, u_9_126, u_9_129, u_9_130, u_9_131, u_9_134, u_9_135, u_9_136, u_9_139, f_gf_some, f_gv_some, f_pf_some, f_ia_some, f_la_some, f_aa_some, f_is_some, f_ls_some, f_rc_some, f_at0, f_atS, f_st_0, f_st_1i, f_st_1r, f_st_1l, f_st_1n, f_st_S, f_s2_0, f_s2_1i, f_s2_1r, f_s2_1l, f_s2_1n, f_s2_S, true_and, and_true, List.set_cons_zero, List.set_cons_succ, List.length_cons, List.length_nil, Nat.reduceAdd, Nat.reduceEqDiff, reduceIte, Nat.left_eq_add, Nat.add_eq_left, Nat.reduceLT, hS'.2.1.1, hS'.2.2.2.1, hS.2.2.2.1, SHo]
  have R := hS.set_m hi m'
  have R' := hS'.other hi (p := s) (e := .inr (5, [.ref (ad f), .ref (ad t), .int (nI m'), .ref (ad (t + 1)), .ref (ad (t + 2)), .ref (ad (t + 3)), .ref (ad (t + 4)), .ref (ad (t + 8)), .ref (ad (t + 9)), .ref (ad (t + 10))])) (hd _ iS)
  have FR : ∀ p, ¬ inSH s f t p → am_set h (ad s) (.inr (5, [.ref (ad f), .ref (ad t), .int (nI m'), .ref (ad (t + 1)), .ref (ad (t + 2)), .ref (ad (t + 3)), .ref (ad (t + 4)), .ref (ad (t + 8)), .ref (ad (t + 9)), .ref (ad (t + 10))])) (ad p) = h (ad p) := fun p hp => s_ne hi (hnf p hp).1
  generalize am_set h (ad s) (.inr (5, [.ref (ad f), .ref (ad t), .int (nI m'), .ref (ad (t + 1)), .ref (ad (t + 2)), .ref (ad (t + 3)), .ref (ad (t + 4)), .ref (ad (t + 8)), .ref (ad (t + 9)), .ref (ad (t + 10))])) = q at R R' FR ⊢
  clear hS hS'
  simp only [u_9_0, u_9_1, u_9_4, u_9_7, u_9_8, u_9_9, u_9_10, u_9_13, u_9_16, u_9_17, u_9_20, u_9_21, u_9_22, u_9_25, u_9_26, u_9_27, u_9_30, u_9_33, u_9_34, u_9_37, u_9_38, u_9_41, u_9_44, u_9_45, u_9_48, u_9_49, u_9_50, u_9_53, u_9_54, u_9_55, u_9_58, u_9_59, u_9_62, u_9_63, u_9_64, u_9_67, u_9_68, u_9_69, u_9_72, u_9_73, u_9_76, u_9_77, u_9_78, u_9_81, u_9_82, u_9_83, u_9_86, u_9_87, u_9_90, u_9_91, u_9_94, u_9_97, u_9_98, u_9_101, u_9_102, u_9_103, u_9_106, u_9_107, u_9_108, u_9_111, u_9_112, u_9_115, u_9_116, u_9_117, u_9_120, u_9_121, u_9_122, u_9_125, u_9_126, u_9_129, u_9_130, u_9_131, u_9_134, u_9_135, u_9_136, u_9_139, f_gf_some, f_gv_some, f_pf_some, f_ia_some, f_la_some, f_aa_some, f_is_some, f_ls_some, f_rc_some, f_at0, f_atS, f_st_0, f_st_1i, f_st_1r, f_st_1l, f_st_1n, f_st_S, f_s2_0, f_s2_1i, f_s2_1r, f_s2_1l, f_s2_1n, f_s2_S, true_and, and_true, List.set_cons_zero, List.set_cons_succ, List.length_cons, List.length_nil, Nat.reduceAdd, Nat.reduceEqDiff, reduceIte, Nat.left_eq_add, Nat.add_eq_left, Nat.reduceLT, R.2.2.2.1, R'.2.2.2.1, SHo, hw]
  have u : q (ad t) = some (.inl (.long, 60, .inr (.inl (sl_src z)))) := R.2.2.2.2.1
  have u' : q (ad t') = some (.inl (.long, 60, .inr (.inl (sl_src z')))) := R'.2.2.2.2.1
  rw [f_cp_l u' u]
  refine ⟨⟨rfl, rfl, hz, hz, hpm, by rw [cl0, hcm]; omega, by rw [cl0, hcm]; omega⟩, ?_⟩
  rw [cl0, hcm]
  have R1 : SH ad (am_set q (ad t) (.inl (.long, 60, .inr (.inl (va_cpy (sl_src z') (sl_src z) 0 0 m'))))) s f t n m' w ((sl_o z, sl_a z, sl_b z), va_cpy (sl_src z') (sl_src z) 0 0 m', sl_told z, sl_st z, sl_num z, (sl_wo z, sl_wa z, sl_wb z), sl_wt z, sl_wf z, sl_ws z) := R.set_src hi (va_cpy (sl_src z') (sl_src z) 0 0 m')
  have R1' := R'.other hi (p := t) (e := .inl (.long, 60, .inr (.inl (va_cpy (sl_src z') (sl_src z) 0 0 m')))) (hd _ (iT 0 (by decide)))
  have FR1 : ∀ p, ¬ inSH s f t p → am_set q (ad t) (.inl (.long, 60, .inr (.inl (va_cpy (sl_src z') (sl_src z) 0 0 m')))) (ad p) = h (ad p) := fun p hp => (s_ne hi (by have := hnf p hp; omega)).trans (FR p hp)
  clear u u' R R' FR
  generalize am_set q (ad t) (.inl (.long, 60, .inr (.inl (va_cpy (sl_src z') (sl_src z) 0 0 m')))) = q1 at R1 R1' FR1 ⊢
  clear q
  simp only [u_9_0, u_9_1, u_9_4, u_9_7, u_9_8, u_9_9, u_9_10, u_9_13, u_9_16, u_9_17, u_9_20, u_9_21, u_9_22, u_9_25, u_9_26, u_9_27, u_9_30, u_9_33, u_9_34, u_9_37, u_9_38, u_9_41, u_9_44, u_9_45, u_9_48, u_9_49, u_9_50, u_9_53, u_9_54, u_9_55, u_9_58, u_9_59, u_9_62, u_9_63, u_9_64, u_9_67, u_9_68, u_9_69, u_9_72, u_9_73, u_9_76, u_9_77, u_9_78, u_9_81, u_9_82, u_9_83, u_9_86, u_9_87, u_9_90, u_9_91, u_9_94, u_9_97, u_9_98, u_9_101, u_9_102, u_9_103, u_9_106, u_9_107, u_9_108, u_9_111, u_9_112, u_9_115, u_9_116, u_9_117, u_9_120, u_9_121, u_9_122, u_9_125, u_9_126, u_9_129, u_9_130, u_9_131, u_9_134, u_9_135, u_9_136, u_9_139, f_gf_some, f_gv_some, f_pf_some, f_ia_some, f_la_some, f_aa_some, f_is_some, f_ls_some, f_rc_some, f_at0, f_atS, f_st_0, f_st_1i, f_st_1r, f_st_1l, f_st_1n, f_st_S, f_s2_0, f_s2_1i, f_s2_1r, f_s2_1l, f_s2_1n, f_s2_S, true_and, and_true, List.set_cons_zero, List.set_cons_succ, List.length_cons, List.length_nil, Nat.reduceAdd, Nat.reduceEqDiff, reduceIte, Nat.left_eq_add, Nat.add_eq_left, Nat.reduceLT, R1.2.2.2.1, R1'.2.2.2.1, SHo, hw, R1.2.1.1]
  refine ⟨by decide, c_ftake hi (o := sl_o z) (a := sl_a z) (b := sl_b z) R1.2.1 R1'.2.1 hn (Decidable.byContradiction hdj) (fun q2 F1 F2 => ?_)⟩
  have R2 : SH ad q2 s f t n' m' w ((va_cpy (sl_o z') (sl_o z) 0 0 n', va_cpy (sl_a z') (sl_a z) 0 0 n', va_cpy (sl_b z') (sl_b z) 0 0 n'), va_cpy (sl_src z') (sl_src z) 0 0 m', sl_told z, sl_st z, sl_num z, (sl_wo z, sl_wa z, sl_wb z), sl_wt z, sl_wf z, sl_ws z) := R1.set_F F1 F2
  have R2' := R1'.frame (h' := q2) (fun p hp => F2 p (Decidable.byContradiction fun c => hd p (by unfold inSH; omega) hp))
  have FR2 : ∀ p, ¬ inSH s f t p → q2 (ad p) = h (ad p) := fun p hp => (F2 p (by have := hnf p hp; omega)).trans (FR1 p hp)
  clear F1 F2 R1 R1' FR1
  clear q1
  show am_W G (am_M G (d + 1)) 9 K _ _ _ _ _ _
  simp only [Option.toList, List.nil_append]
  simp only [u_9_0, u_9_1, u_9_4, u_9_7, u_9_8, u_9_9, u_9_10, u_9_13, u_9_16, u_9_17, u_9_20, u_9_21, u_9_22, u_9_25, u_9_26, u_9_27, u_9_30, u_9_33, u_9_34, u_9_37, u_9_38, u_9_41, u_9_44, u_9_45, u_9_48, u_9_49, u_9_50, u_9_53, u_9_54, u_9_55, u_9_58, u_9_59, u_9_62, u_9_63, u_9_64, u_9_67, u_9_68, u_9_69, u_9_72, u_9_73, u_9_76, u_9_77, u_9_78, u_9_81, u_9_82, u_9_83, u_9_86, u_9_87, u_9_90, u_9_91, u_9_94, u_9_97, u_9_98, u_9_101, u_9_102, u_9_103, u_9_106, u_9_107, u_9_108, u_9_111, u_9_112, u_9_115, u_9_116, u_9_117, u_9_120, u_9_121, u_9_122, u_9_125, u_9_126, u_9_129, u_9_130, u_9_131, u_9_134, u_9_135, u_9_136, u_9_139, f_gf_some, f_gv_some, f_pf_some, f_ia_some, f_la_some, f_aa_some, f_is_some, f_ls_some, f_rc_some, f_at0, f_atS, f_st_0, f_st_1i, f_st_1r, f_st_1l, f_st_1n, f_st_S, f_s2_0, f_s2_1i, f_s2_1r, f_s2_1l, f_s2_1n, f_s2_S, true_and, and_true, List.set_cons_zero, List.set_cons_succ, List.length_cons, List.length_nil, Nat.reduceAdd, Nat.reduceEqDiff, reduceIte, Nat.left_eq_add, Nat.add_eq_left, Nat.reduceLT, R2.2.2.2.1, R2'.2.2.2.1, SHo, hw]
  have u : q2 (ad (t + 1)) = some (.inl (.boolean, 150, .inl (sl_told z))) := R2.2.2.2.2.2.1
  have u' : q2 (ad (t' + 1)) = some (.inl (.boolean, 150, .inl (sl_told z'))) := R2'.2.2.2.2.2.1
  rw [f_cp_i u' u]
  refine ⟨⟨rfl, rfl, hz, hz, hp, by rw [cl0, hc]; omega, by rw [cl0, hc]; omega, fun i _ => isZ.fit (f := sl_told z') R2'.2.2.2.2.2.2.2.2.2.2.2.1 _⟩, ?_⟩
  rw [cl0, hc]
  have R3 : SH ad (am_set q2 (ad (t + 1)) (.inl (.boolean, 150, .inl (va_cpy (sl_told z') (sl_told z) 0 0 n')))) s f t n' m' w ((va_cpy (sl_o z') (sl_o z) 0 0 n', va_cpy (sl_a z') (sl_a z) 0 0 n', va_cpy (sl_b z') (sl_b z) 0 0 n'), va_cpy (sl_src z') (sl_src z) 0 0 m', va_cpy (sl_told z') (sl_told z) 0 0 n', sl_st z, sl_num z, (sl_wo z, sl_wa z, sl_wb z), sl_wt z, sl_wf z, sl_ws z) := R2.set_told hi (va_cpy (sl_told z') (sl_told z) 0 0 n') (isZ.cpy (f := sl_told z') (g := sl_told z) R2'.2.2.2.2.2.2.2.2.2.2.2.1 R2.2.2.2.2.2.2.2.2.2.2.2.1 0 0 _)
  have R3' := R2'.other hi (p := (t + 1)) (e := .inl (.boolean, 150, .inl (va_cpy (sl_told z') (sl_told z) 0 0 n'))) (hd _ (iT 1 (by decide)))
  have FR3 : ∀ p, ¬ inSH s f t p → am_set q2 (ad (t + 1)) (.inl (.boolean, 150, .inl (va_cpy (sl_told z') (sl_told z) 0 0 n'))) (ad p) = h (ad p) := fun p hp => (s_ne hi (by have := hnf p hp; omega)).trans (FR2 p hp)
  clear u u' R2 R2' FR2
  generalize am_set q2 (ad (t + 1)) (.inl (.boolean, 150, .inl (va_cpy (sl_told z') (sl_told z) 0 0 n'))) = q3 at R3 R3' FR3 ⊢
  clear q2
  simp only [u_9_0, u_9_1, u_9_4, u_9_7, u_9_8, u_9_9, u_9_10, u_9_13, u_9_16, u_9_17, u_9_20, u_9_21, u_9_22, u_9_25, u_9_26, u_9_27, u_9_30, u_9_33, u_9_34, u_9_37, u_9_38, u_9_41, u_9_44, u_9_45, u_9_48, u_9_49, u_9_50, u_9_53, u_9_54, u_9_55, u_9_58, u_9_59, u_9_62, u_9_63, u_9_64, u_9_67, u_9_68, u_9_69, u_9_72, u_9_73, u_9_76, u_9_77, u_9_78, u_9_81, u_9_82, u_9_83, u_9_86, u_9_87, u_9_90, u_9_91, u_9_94, u_9_97, u_9_98, u_9_101, u_9_102, u_9_103, u_9_106, u_9_107, u_9_108, u_9_111, u_9_112, u_9_115, u_9_116, u_9_117, u_9_120, u_9_121, u_9_122, u_9_125, u_9_126, u_9_129, u_9_130, u_9_131, u_9_134, u_9_135, u_9_136, u_9_139, f_gf_some, f_gv_some, f_pf_some, f_ia_some, f_la_some, f_aa_some, f_is_some, f_ls_some, f_rc_some, f_at0, f_atS, f_st_0, f_st_1i, f_st_1r, f_st_1l, f_st_1n, f_st_S, f_s2_0, f_s2_1i, f_s2_1r, f_s2_1l, f_s2_1n, f_s2_S, true_and, and_true, List.set_cons_zero, List.set_cons_succ, List.length_cons, List.length_nil, Nat.reduceAdd, Nat.reduceEqDiff, reduceIte, Nat.left_eq_add, Nat.add_eq_left, Nat.reduceLT, R3.2.2.2.1, R3'.2.2.2.1, SHo, hw]
  have u : q3 (ad (t + 2)) = some (.inl (.int, 150, .inl (sl_st z))) := R3.2.2.2.2.2.2.1
  have u' : q3 (ad (t' + 2)) = some (.inl (.int, 150, .inl (sl_st z'))) := R3'.2.2.2.2.2.2.1
  rw [f_cp_i u' u]
  refine ⟨⟨rfl, rfl, hz, hz, hp, by rw [cl0, hc]; omega, by rw [cl0, hc]; omega, fun i _ => fit_i _⟩, ?_⟩
  rw [cl0, hc]
  have R4 : SH ad (am_set q3 (ad (t + 2)) (.inl (.int, 150, .inl (va_cpy (sl_st z') (sl_st z) 0 0 n')))) s f t n' m' w ((va_cpy (sl_o z') (sl_o z) 0 0 n', va_cpy (sl_a z') (sl_a z) 0 0 n', va_cpy (sl_b z') (sl_b z) 0 0 n'), va_cpy (sl_src z') (sl_src z) 0 0 m', va_cpy (sl_told z') (sl_told z) 0 0 n', va_cpy (sl_st z') (sl_st z) 0 0 n', sl_num z, (sl_wo z, sl_wa z, sl_wb z), sl_wt z, sl_wf z, sl_ws z) := R3.set_st hi (va_cpy (sl_st z') (sl_st z) 0 0 n')
  have R4' := R3'.other hi (p := (t + 2)) (e := .inl (.int, 150, .inl (va_cpy (sl_st z') (sl_st z) 0 0 n'))) (hd _ (iT 2 (by decide)))
  have FR4 : ∀ p, ¬ inSH s f t p → am_set q3 (ad (t + 2)) (.inl (.int, 150, .inl (va_cpy (sl_st z') (sl_st z) 0 0 n'))) (ad p) = h (ad p) := fun p hp => (s_ne hi (by have := hnf p hp; omega)).trans (FR3 p hp)
  clear u u' R3 R3' FR3
  generalize am_set q3 (ad (t + 2)) (.inl (.int, 150, .inl (va_cpy (sl_st z') (sl_st z) 0 0 n'))) = q4 at R4 R4' FR4 ⊢
  clear q3
  simp only [u_9_0, u_9_1, u_9_4, u_9_7, u_9_8, u_9_9, u_9_10, u_9_13, u_9_16, u_9_17, u_9_20, u_9_21, u_9_22, u_9_25, u_9_26, u_9_27, u_9_30, u_9_33, u_9_34, u_9_37, u_9_38, u_9_41, u_9_44, u_9_45, u_9_48, u_9_49, u_9_50, u_9_53, u_9_54, u_9_55, u_9_58, u_9_59, u_9_62, u_9_63, u_9_64, u_9_67, u_9_68, u_9_69, u_9_72, u_9_73, u_9_76, u_9_77, u_9_78, u_9_81, u_9_82, u_9_83, u_9_86, u_9_87, u_9_90, u_9_91, u_9_94, u_9_97, u_9_98, u_9_101, u_9_102, u_9_103, u_9_106, u_9_107, u_9_108, u_9_111, u_9_112, u_9_115, u_9_116, u_9_117, u_9_120, u_9_121, u_9_122, u_9_125, u_9_126, u_9_129, u_9_130, u_9_131, u_9_134, u_9_135, u_9_136, u_9_139, f_gf_some, f_gv_some, f_pf_some, f_ia_some, f_la_some, f_aa_some, f_is_some, f_ls_some, f_rc_some, f_at0, f_atS, f_st_0, f_st_1i, f_st_1r, f_st_1l, f_st_1n, f_st_S, f_s2_0, f_s2_1i, f_s2_1r, f_s2_1l, f_s2_1n, f_s2_S, true_and, and_true, List.set_cons_zero, List.set_cons_succ, List.length_cons, List.length_nil, Nat.reduceAdd, Nat.reduceEqDiff, reduceIte, Nat.left_eq_add, Nat.add_eq_left, Nat.reduceLT, R4.2.2.2.1, R4'.2.2.2.1, SHo, hw]
  have u : q4 (ad (t + 3)) = some (.inl (.long, 150, .inr (.inl (sl_num z)))) := R4.2.2.2.2.2.2.2.1
  have u' : q4 (ad (t' + 3)) = some (.inl (.long, 150, .inr (.inl (sl_num z')))) := R4'.2.2.2.2.2.2.2.1
  rw [f_cp_l u' u]
  refine ⟨⟨rfl, rfl, hz, hz, hp, by rw [cl0, hc]; omega, by rw [cl0, hc]; omega⟩, ?_⟩
  rw [cl0, hc]
  have R5 : SH ad (am_set q4 (ad (t + 3)) (.inl (.long, 150, .inr (.inl (va_cpy (sl_num z') (sl_num z) 0 0 n'))))) s f t n' m' w ((va_cpy (sl_o z') (sl_o z) 0 0 n', va_cpy (sl_a z') (sl_a z) 0 0 n', va_cpy (sl_b z') (sl_b z) 0 0 n'), va_cpy (sl_src z') (sl_src z) 0 0 m', va_cpy (sl_told z') (sl_told z) 0 0 n', va_cpy (sl_st z') (sl_st z) 0 0 n', va_cpy (sl_num z') (sl_num z) 0 0 n', (sl_wo z, sl_wa z, sl_wb z), sl_wt z, sl_wf z, sl_ws z) := R4.set_num hi (va_cpy (sl_num z') (sl_num z) 0 0 n')
  have R5' := R4'.other hi (p := (t + 3)) (e := .inl (.long, 150, .inr (.inl (va_cpy (sl_num z') (sl_num z) 0 0 n')))) (hd _ (iT 3 (by decide)))
  have FR5 : ∀ p, ¬ inSH s f t p → am_set q4 (ad (t + 3)) (.inl (.long, 150, .inr (.inl (va_cpy (sl_num z') (sl_num z) 0 0 n')))) (ad p) = h (ad p) := fun p hp => (s_ne hi (by have := hnf p hp; omega)).trans (FR4 p hp)
  clear u u' R4 R4' FR4
  generalize am_set q4 (ad (t + 3)) (.inl (.long, 150, .inr (.inl (va_cpy (sl_num z') (sl_num z) 0 0 n')))) = q5 at R5 R5' FR5 ⊢
  clear q4
  simp only [u_9_0, u_9_1, u_9_4, u_9_7, u_9_8, u_9_9, u_9_10, u_9_13, u_9_16, u_9_17, u_9_20, u_9_21, u_9_22, u_9_25, u_9_26, u_9_27, u_9_30, u_9_33, u_9_34, u_9_37, u_9_38, u_9_41, u_9_44, u_9_45, u_9_48, u_9_49, u_9_50, u_9_53, u_9_54, u_9_55, u_9_58, u_9_59, u_9_62, u_9_63, u_9_64, u_9_67, u_9_68, u_9_69, u_9_72, u_9_73, u_9_76, u_9_77, u_9_78, u_9_81, u_9_82, u_9_83, u_9_86, u_9_87, u_9_90, u_9_91, u_9_94, u_9_97, u_9_98, u_9_101, u_9_102, u_9_103, u_9_106, u_9_107, u_9_108, u_9_111, u_9_112, u_9_115, u_9_116, u_9_117, u_9_120, u_9_121, u_9_122, u_9_125, u_9_126, u_9_129, u_9_130, u_9_131, u_9_134, u_9_135, u_9_136, u_9_139, f_gf_some, f_gv_some, f_pf_some, f_ia_some, f_la_some, f_aa_some, f_is_some, f_ls_some, f_rc_some, f_at0, f_atS, f_st_0, f_st_1i, f_st_1r, f_st_1l, f_st_1n, f_st_S, f_s2_0, f_s2_1i, f_s2_1r, f_s2_1l, f_s2_1n, f_s2_S, true_and, and_true, List.set_cons_zero, List.set_cons_succ, List.length_cons, List.length_nil, Nat.reduceAdd, Nat.reduceEqDiff, reduceIte, Nat.left_eq_add, Nat.add_eq_left, Nat.reduceLT, R5.2.2.2.1, R5'.2.2.2.1, SHo, hw, R5.2.2.1.1]
  refine ⟨by decide, c_ftake hi (o := sl_wo z) (a := sl_wa z) (b := sl_wb z) R5.2.2.1 R5'.2.2.1 hw' (Decidable.byContradiction hdt) (fun q6 F1 F2 => ?_)⟩
  have R6 : SH ad q6 s f t n' m' w' ((va_cpy (sl_o z') (sl_o z) 0 0 n', va_cpy (sl_a z') (sl_a z) 0 0 n', va_cpy (sl_b z') (sl_b z) 0 0 n'), va_cpy (sl_src z') (sl_src z) 0 0 m', va_cpy (sl_told z') (sl_told z) 0 0 n', va_cpy (sl_st z') (sl_st z) 0 0 n', va_cpy (sl_num z') (sl_num z) 0 0 n', (va_cpy (sl_wo z') (sl_wo z) 0 0 w', va_cpy (sl_wa z') (sl_wa z) 0 0 w', va_cpy (sl_wb z') (sl_wb z) 0 0 w'), sl_wt z, sl_wf z, sl_ws z) := R5.set_W F1 F2
  have R6' := R5'.frame (h' := q6) (fun p hp => F2 p (Decidable.byContradiction fun c => hd p (by unfold inSH; omega) hp))
  have FR6 : ∀ p, ¬ inSH s f t p → q6 (ad p) = h (ad p) := fun p hp => (F2 p (by have := hnf p hp; omega)).trans (FR5 p hp)
  clear F1 F2 R5 R5' FR5
  clear q5
  show am_W G (am_M G (d + 1)) 9 K _ _ _ _ _ _
  simp only [Option.toList, List.nil_append]
  simp only [u_9_0, u_9_1, u_9_4, u_9_7, u_9_8, u_9_9, u_9_10, u_9_13, u_9_16, u_9_17, u_9_20, u_9_21, u_9_22, u_9_25, u_9_26, u_9_27, u_9_30, u_9_33, u_9_34, u_9_37, u_9_38, u_9_41, u_9_44, u_9_45, u_9_48, u_9_49, u_9_50, u_9_53, u_9_54, u_9_55, u_9_58, u_9_59, u_9_62, u_9_63, u_9_64, u_9_67, u_9_68, u_9_69, u_9_72, u_9_73, u_9_76, u_9_77, u_9_78, u_9_81, u_9_82, u_9_83, u_9_86, u_9_87, u_9_90, u_9_91, u_9_94, u_9_97, u_9_98, u_9_101, u_9_102, u_9_103, u_9_106, u_9_107, u_9_108, u_9_111, u_9_112, u_9_115, u_9_116, u_9_117, u_9_120, u_9_121, u_9_122, u_9_125, u_9_126, u_9_129, u_9_130, u_9_131, u_9_134, u_9_135, u_9_136, u_9_139, f_gf_some, f_gv_some, f_pf_some, f_ia_some, f_la_some, f_aa_some, f_is_some, f_ls_some, f_rc_some, f_at0, f_atS, f_st_0, f_st_1i, f_st_1r, f_st_1l, f_st_1n, f_st_S, f_s2_0, f_s2_1i, f_s2_1r, f_s2_1l, f_s2_1n, f_s2_S, true_and, and_true, List.set_cons_zero, List.set_cons_succ, List.length_cons, List.length_nil, Nat.reduceAdd, Nat.reduceEqDiff, reduceIte, Nat.left_eq_add, Nat.add_eq_left, Nat.reduceLT, R6.2.2.2.1, R6'.2.2.2.1, SHo, hw]
  have u : q6 (ad (t + 8)) = some (.inl (.boolean, 150, .inl (sl_wt z))) := R6.2.2.2.2.2.2.2.2.1
  have u' : q6 (ad (t' + 8)) = some (.inl (.boolean, 150, .inl (sl_wt z'))) := R6'.2.2.2.2.2.2.2.2.1
  rw [f_cp_i u' u]
  refine ⟨⟨rfl, rfl, hz, hz, hp, by rw [cl0, hc]; omega, by rw [cl0, hc]; omega, fun i _ => isZ.fit (f := sl_wt z') R6'.2.2.2.2.2.2.2.2.2.2.2.2 _⟩, ?_⟩
  rw [cl0, hc]
  have R7 : SH ad (am_set q6 (ad (t + 8)) (.inl (.boolean, 150, .inl (va_cpy (sl_wt z') (sl_wt z) 0 0 n')))) s f t n' m' w' ((va_cpy (sl_o z') (sl_o z) 0 0 n', va_cpy (sl_a z') (sl_a z) 0 0 n', va_cpy (sl_b z') (sl_b z) 0 0 n'), va_cpy (sl_src z') (sl_src z) 0 0 m', va_cpy (sl_told z') (sl_told z) 0 0 n', va_cpy (sl_st z') (sl_st z) 0 0 n', va_cpy (sl_num z') (sl_num z) 0 0 n', (va_cpy (sl_wo z') (sl_wo z) 0 0 w', va_cpy (sl_wa z') (sl_wa z) 0 0 w', va_cpy (sl_wb z') (sl_wb z) 0 0 w'), va_cpy (sl_wt z') (sl_wt z) 0 0 n', sl_wf z, sl_ws z) := R6.set_wt hi (va_cpy (sl_wt z') (sl_wt z) 0 0 n') (isZ.cpy (f := sl_wt z') (g := sl_wt z) R6'.2.2.2.2.2.2.2.2.2.2.2.2 R6.2.2.2.2.2.2.2.2.2.2.2.2 0 0 _)
  have R7' := R6'.other hi (p := (t + 8)) (e := .inl (.boolean, 150, .inl (va_cpy (sl_wt z') (sl_wt z) 0 0 n'))) (hd _ (iT 8 (by decide)))
  have FR7 : ∀ p, ¬ inSH s f t p → am_set q6 (ad (t + 8)) (.inl (.boolean, 150, .inl (va_cpy (sl_wt z') (sl_wt z) 0 0 n'))) (ad p) = h (ad p) := fun p hp => (s_ne hi (by have := hnf p hp; omega)).trans (FR6 p hp)
  clear u u' R6 R6' FR6
  generalize am_set q6 (ad (t + 8)) (.inl (.boolean, 150, .inl (va_cpy (sl_wt z') (sl_wt z) 0 0 n'))) = q7 at R7 R7' FR7 ⊢
  clear q6
  simp only [u_9_0, u_9_1, u_9_4, u_9_7, u_9_8, u_9_9, u_9_10, u_9_13, u_9_16, u_9_17, u_9_20, u_9_21, u_9_22, u_9_25, u_9_26, u_9_27, u_9_30, u_9_33, u_9_34, u_9_37, u_9_38, u_9_41, u_9_44, u_9_45, u_9_48, u_9_49, u_9_50, u_9_53, u_9_54, u_9_55, u_9_58, u_9_59, u_9_62, u_9_63, u_9_64, u_9_67, u_9_68, u_9_69, u_9_72, u_9_73, u_9_76, u_9_77, u_9_78, u_9_81, u_9_82, u_9_83, u_9_86, u_9_87, u_9_90, u_9_91, u_9_94, u_9_97, u_9_98, u_9_101, u_9_102, u_9_103, u_9_106, u_9_107, u_9_108, u_9_111, u_9_112, u_9_115, u_9_116, u_9_117, u_9_120, u_9_121, u_9_122, u_9_125, u_9_126, u_9_129, u_9_130, u_9_131, u_9_134, u_9_135, u_9_136, u_9_139, f_gf_some, f_gv_some, f_pf_some, f_ia_some, f_la_some, f_aa_some, f_is_some, f_ls_some, f_rc_some, f_at0, f_atS, f_st_0, f_st_1i, f_st_1r, f_st_1l, f_st_1n, f_st_S, f_s2_0, f_s2_1i, f_s2_1r, f_s2_1l, f_s2_1n, f_s2_S, true_and, and_true, List.set_cons_zero, List.set_cons_succ, List.length_cons, List.length_nil, Nat.reduceAdd, Nat.reduceEqDiff, reduceIte, Nat.left_eq_add, Nat.add_eq_left, Nat.reduceLT, R7.2.2.2.1, R7'.2.2.2.1, SHo, hw]
  have u : q7 (ad (t + 9)) = some (.inl (.long, 150, .inr (.inl (sl_wf z)))) := R7.2.2.2.2.2.2.2.2.2.1
  have u' : q7 (ad (t' + 9)) = some (.inl (.long, 150, .inr (.inl (sl_wf z')))) := R7'.2.2.2.2.2.2.2.2.2.1
  rw [f_cp_l u' u]
  refine ⟨⟨rfl, rfl, hz, hz, hp, by rw [cl0, hc]; omega, by rw [cl0, hc]; omega⟩, ?_⟩
  rw [cl0, hc]
  have R8 : SH ad (am_set q7 (ad (t + 9)) (.inl (.long, 150, .inr (.inl (va_cpy (sl_wf z') (sl_wf z) 0 0 n'))))) s f t n' m' w' ((va_cpy (sl_o z') (sl_o z) 0 0 n', va_cpy (sl_a z') (sl_a z) 0 0 n', va_cpy (sl_b z') (sl_b z) 0 0 n'), va_cpy (sl_src z') (sl_src z) 0 0 m', va_cpy (sl_told z') (sl_told z) 0 0 n', va_cpy (sl_st z') (sl_st z) 0 0 n', va_cpy (sl_num z') (sl_num z) 0 0 n', (va_cpy (sl_wo z') (sl_wo z) 0 0 w', va_cpy (sl_wa z') (sl_wa z) 0 0 w', va_cpy (sl_wb z') (sl_wb z) 0 0 w'), va_cpy (sl_wt z') (sl_wt z) 0 0 n', va_cpy (sl_wf z') (sl_wf z) 0 0 n', sl_ws z) := R7.set_wf hi (va_cpy (sl_wf z') (sl_wf z) 0 0 n')
  have R8' := R7'.other hi (p := (t + 9)) (e := .inl (.long, 150, .inr (.inl (va_cpy (sl_wf z') (sl_wf z) 0 0 n')))) (hd _ (iT 9 (by decide)))
  have FR8 : ∀ p, ¬ inSH s f t p → am_set q7 (ad (t + 9)) (.inl (.long, 150, .inr (.inl (va_cpy (sl_wf z') (sl_wf z) 0 0 n')))) (ad p) = h (ad p) := fun p hp => (s_ne hi (by have := hnf p hp; omega)).trans (FR7 p hp)
  clear u u' R7 R7' FR7
  generalize am_set q7 (ad (t + 9)) (.inl (.long, 150, .inr (.inl (va_cpy (sl_wf z') (sl_wf z) 0 0 n')))) = q8 at R8 R8' FR8 ⊢
  clear q7
  simp only [u_9_0, u_9_1, u_9_4, u_9_7, u_9_8, u_9_9, u_9_10, u_9_13, u_9_16, u_9_17, u_9_20, u_9_21, u_9_22, u_9_25, u_9_26, u_9_27, u_9_30, u_9_33, u_9_34, u_9_37, u_9_38, u_9_41, u_9_44, u_9_45, u_9_48, u_9_49, u_9_50, u_9_53, u_9_54, u_9_55, u_9_58, u_9_59, u_9_62, u_9_63, u_9_64, u_9_67, u_9_68, u_9_69, u_9_72, u_9_73, u_9_76, u_9_77, u_9_78, u_9_81, u_9_82, u_9_83, u_9_86, u_9_87, u_9_90, u_9_91, u_9_94, u_9_97, u_9_98, u_9_101, u_9_102, u_9_103, u_9_106, u_9_107, u_9_108, u_9_111, u_9_112, u_9_115, u_9_116, u_9_117, u_9_120, u_9_121, u_9_122, u_9_125, u_9_126, u_9_129, u_9_130, u_9_131, u_9_134, u_9_135, u_9_136, u_9_139, f_gf_some, f_gv_some, f_pf_some, f_ia_some, f_la_some, f_aa_some, f_is_some, f_ls_some, f_rc_some, f_at0, f_atS, f_st_0, f_st_1i, f_st_1r, f_st_1l, f_st_1n, f_st_S, f_s2_0, f_s2_1i, f_s2_1r, f_s2_1l, f_s2_1n, f_s2_S, true_and, and_true, List.set_cons_zero, List.set_cons_succ, List.length_cons, List.length_nil, Nat.reduceAdd, Nat.reduceEqDiff, reduceIte, Nat.left_eq_add, Nat.add_eq_left, Nat.reduceLT, R8.2.2.2.1, R8'.2.2.2.1, SHo, hw]
  have u : q8 (ad (t + 10)) = some (.inl (.long, 150, .inr (.inl (sl_ws z)))) := R8.2.2.2.2.2.2.2.2.2.2.1
  have u' : q8 (ad (t' + 10)) = some (.inl (.long, 150, .inr (.inl (sl_ws z')))) := R8'.2.2.2.2.2.2.2.2.2.2.1
  rw [f_cp_l u' u]
  refine ⟨⟨rfl, rfl, hz, hz, hp, by rw [cl0, hc]; omega, by rw [cl0, hc]; omega⟩, ?_⟩
  rw [cl0, hc]
  have R9 : SH ad (am_set q8 (ad (t + 10)) (.inl (.long, 150, .inr (.inl (va_cpy (sl_ws z') (sl_ws z) 0 0 n'))))) s f t n' m' w' ((va_cpy (sl_o z') (sl_o z) 0 0 n', va_cpy (sl_a z') (sl_a z) 0 0 n', va_cpy (sl_b z') (sl_b z) 0 0 n'), va_cpy (sl_src z') (sl_src z) 0 0 m', va_cpy (sl_told z') (sl_told z) 0 0 n', va_cpy (sl_st z') (sl_st z) 0 0 n', va_cpy (sl_num z') (sl_num z) 0 0 n', (va_cpy (sl_wo z') (sl_wo z) 0 0 w', va_cpy (sl_wa z') (sl_wa z) 0 0 w', va_cpy (sl_wb z') (sl_wb z) 0 0 w'), va_cpy (sl_wt z') (sl_wt z) 0 0 n', va_cpy (sl_wf z') (sl_wf z) 0 0 n', va_cpy (sl_ws z') (sl_ws z) 0 0 n') := R8.set_ws hi (va_cpy (sl_ws z') (sl_ws z) 0 0 n')
  have R9' := R8'.other hi (p := (t + 10)) (e := .inl (.long, 150, .inr (.inl (va_cpy (sl_ws z') (sl_ws z) 0 0 n')))) (hd _ (iT 10 (by decide)))
  have FR9 : ∀ p, ¬ inSH s f t p → am_set q8 (ad (t + 10)) (.inl (.long, 150, .inr (.inl (va_cpy (sl_ws z') (sl_ws z) 0 0 n')))) (ad p) = h (ad p) := fun p hp => (s_ne hi (by have := hnf p hp; omega)).trans (FR8 p hp)
  clear u u' R8 R8' FR8
  generalize am_set q8 (ad (t + 10)) (.inl (.long, 150, .inr (.inl (va_cpy (sl_ws z') (sl_ws z) 0 0 n')))) = q9 at R9 R9' FR9 ⊢
  clear q8
  simp only [u_9_0, u_9_1, u_9_4, u_9_7, u_9_8, u_9_9, u_9_10, u_9_13, u_9_16, u_9_17, u_9_20, u_9_21, u_9_22, u_9_25, u_9_26, u_9_27, u_9_30, u_9_33, u_9_34, u_9_37, u_9_38, u_9_41, u_9_44, u_9_45, u_9_48, u_9_49, u_9_50, u_9_53, u_9_54, u_9_55, u_9_58, u_9_59, u_9_62, u_9_63, u_9_64, u_9_67, u_9_68, u_9_69, u_9_72, u_9_73, u_9_76, u_9_77, u_9_78, u_9_81, u_9_82, u_9_83, u_9_86, u_9_87, u_9_90, u_9_91, u_9_94, u_9_97, u_9_98, u_9_101, u_9_102, u_9_103, u_9_106, u_9_107, u_9_108, u_9_111, u_9_112, u_9_115, u_9_116, u_9_117, u_9_120, u_9_121, u_9_122, u_9_125, u_9_126, u_9_129, u_9_130, u_9_131, u_9_134, u_9_135, u_9_136, u_9_139]
  exact hk q9 R9 FR9
