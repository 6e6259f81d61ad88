-- class and reference together: what they share, and that each call keeps it
def agr (n m : Nat) (z z' : Sl) : Prop := (∀ k, k < 9 → ∀ i, n ≤ i → sI z' k i = sI z k i) ∧ (∀ k, k < 3 → ∀ i, n ≤ i → sL z' k i = sL z k i) ∧ ∀ i, m ≤ i → sl_src z' i = sl_src z i
theorem agr.rf {n m : Nat} (z : Sl) : agr n m z z := ⟨fun _ _ _ _ => rfl, fun _ _ _ _ => rfl, fun _ _ => rfl⟩
theorem agr.tr {n m : Nat} {z z' z'' : Sl} (h : agr n m z z') (h' : agr n m z' z'') : agr n m z z'' := ⟨fun k hk i hi => (h'.1 k hk i hi).trans (h.1 k hk i hi), fun k hk i hi => (h'.2.1 k hk i hi).trans (h.2.1 k hk i hi), fun i hi => (h'.2.2 i hi).trans (h.2.2 i hi)⟩
theorem sl_ext {z z' : Sl} (h1 : ∀ k, k < 9 → sI z k = sI z' k) (h2 : ∀ k, k < 3 → sL z k = sL z' k) (h3 : sl_src z = sl_src z') : z = z' := by
  obtain ⟨⟨o, a, b⟩, s, t, st, nu, ⟨wo, wa, wb⟩, wt, wf, ws⟩ := z
  obtain ⟨⟨o', a', b'⟩, s', t', st', nu', ⟨wo', wa', wb'⟩, wt', wf', ws'⟩ := z'
  have e0 : o = o' := h1 0 (by decide)
  have e1 : a = a' := h1 1 (by decide)
  have e2 : b = b' := h1 2 (by decide)
  have e3 : t = t' := h1 3 (by decide)
  have e4 : st = st' := h1 4 (by decide)
  have e5 : wo = wo' := h1 5 (by decide)
  have e6 : wa = wa' := h1 6 (by decide)
  have e7 : wb = wb' := h1 7 (by decide)
  have e8 : wt = wt' := h1 8 (by decide)
  have f0 : nu = nu' := h2 0 (by decide)
  have f1 : wf = wf' := h2 1 (by decide)
  have f2 : ws = ws' := h2 2 (by decide)
  have f3 : s = s' := h3
  rw [e0, e1, e2, e3, e4, e5, e6, e7, e8, f0, f1, f2, f3]
theorem va_cpy_o {α : Type} {f g : Nat → α} {n i : Nat} (h : n ≤ i) : va_cpy f g 0 0 n i = g i := by unfold va_cpy; rw [if_neg (by omega)]
theorem cpyI {n m : Nat} {A B : Sl} : ∀ k, k < 9 → sI (sl_cpy n m n A B) k = va_cpy (sI A k) (sI B k) 0 0 n := all9 rfl rfl rfl rfl rfl rfl rfl rfl rfl
theorem cpyL {n m : Nat} {A B : Sl} : ∀ k, k < 3 → sL (sl_cpy n m n A B) k = va_cpy (sL A k) (sL B k) 0 0 n := all3 rfl rfl rfl
theorem cpyS {n m : Nat} {A B : Sl} : sl_src (sl_cpy n m n A B) = va_cpy (sl_src A) (sl_src B) 0 0 m := rfl
theorem va_cpy_e {α : Type} {f g f' g' : Nat → α} {n : Nat} (h1 : ∀ i, i < n → f i = f' i) (h2 : ∀ i, n ≤ i → g i = g' i) : va_cpy f g 0 0 n = va_cpy f' g' 0 0 n := by
  funext i
  by_cases c : i < n
  · rw [va_cpy_i c, va_cpy_i c]; exact h1 i c
  · rw [va_cpy_o (by omega), va_cpy_o (by omega)]; exact h2 i (by omega)
theorem va_cpy_s {α : Type} {f g : Nat → α} {n : Nat} : va_cpy (va_cpy f g 0 0 n) f 0 0 n = f := by
  funext i
  by_cases c : i < n
  · rw [va_cpy_i c, va_cpy_i c]
  · rw [va_cpy_o (by omega)]
theorem cpy_agr {n m : Nat} {z z' : Sl} (h : agr n m z z') (A : Sl) : sl_cpy n m n A z' = sl_cpy n m n A z :=
  sl_ext (fun k hk => by rw [cpyI k hk, cpyI k hk]; exact va_cpy_e (fun _ _ => rfl) (fun i hi => h.1 k hk i hi)) (fun k hk => by rw [cpyL k hk, cpyL k hk]; exact va_cpy_e (fun _ _ => rfl) (fun i hi => h.2.1 k hk i hi)) (by rw [cpyS, cpyS]; exact va_cpy_e (fun _ _ => rfl) (fun i hi => h.2.2 i hi))
theorem cpy_self {n m : Nat} {z A : Sl} : sl_cpy n m n (sl_cpy n m n z A) z = z :=
  sl_ext (fun k hk => by rw [cpyI k hk, cpyI k hk]; exact va_cpy_s) (fun k hk => by rw [cpyL k hk, cpyL k hk]; exact va_cpy_s) (by rw [cpyS, cpyS]; exact va_cpy_s)
theorem agr_cpy {n m : Nat} {z A : Sl} : agr n m z (sl_cpy n m n A z) :=
  ⟨fun k hk i hi => by rw [cpyI k hk]; exact va_cpy_o hi, fun k hk i hi => by rw [cpyL k hk]; exact va_cpy_o hi, fun i hi => by rw [cpyS]; exact va_cpy_o hi⟩
theorem agrI {n m : Nat} {z z' : Sl} (k : Nat) (h : sameI z z' k) (hx : ∀ i, n ≤ i → sI z' k i = sI z k i) : agr n m z z' := ⟨fun k' hk i hi => by
  by_cases e : k' = k
  · subst e; exact hx i hi
  · rw [h.1 k' hk e], fun k' hk i hi => by rw [h.2.1 k' hk], fun i hi => by rw [h.2.2]⟩
theorem agrL {n m : Nat} {z z' : Sl} (k : Nat) (h : sameL z z' k) (hx : ∀ i, n ≤ i → sL z' k i = sL z k i) : agr n m z z' := ⟨fun k' hk i hi => by rw [h.1 k' hk], fun k' hk i hi => by
  by_cases e : k' = k
  · subst e; exact hx i hi
  · rw [h.2.1 k' hk e], fun i hi => by rw [h.2.2]⟩
theorem agr_F {n m : Nat} {z : Sl} {o a b : Nat → Int32} (h1 : ∀ i, n ≤ i → o i = sl_o z i) (h2 : ∀ i, n ≤ i → a i = sl_a z i) (h3 : ∀ i, n ≤ i → b i = sl_b z i) : agr n m z (sl_F z o a b) :=
  ((agrI 0 (sm_o z o) h1).tr (agrI 1 (sm_a (sl_F z o (sl_a z) (sl_b z)) a) h2)).tr (agrI 2 (sm_b (sl_F z o a (sl_b z)) b) h3)
theorem agr_W {n m : Nat} {z : Sl} {o a b : Nat → Int32} (h1 : ∀ i, n ≤ i → o i = sl_wo z i) (h2 : ∀ i, n ≤ i → a i = sl_wa z i) (h3 : ∀ i, n ≤ i → b i = sl_wb z i) : agr n m z (sl_W z o a b) :=
  ((agrI 5 (sm_wo z o) h1).tr (agrI 6 (sm_wa (sl_W z o (sl_wa z) (sl_wb z)) a) h2)).tr (agrI 7 (sm_wb (sl_W z o a (sl_wb z)) b) h3)
theorem agr_st {n m : Nat} {z : Sl} {X : Nat → Int32} (h : ∀ i, n ≤ i → X i = sl_st z i) : agr n m z (sl_st' z X) := agrI 4 (sm_st z X) h
theorem agr_told {n m : Nat} {z : Sl} {X : Nat → Int32} (h : ∀ i, n ≤ i → X i = sl_told z i) : agr n m z (sl_told' z X) := agrI 3 (sm_told z X) h
theorem agr_src {n m : Nat} {z : Sl} {X : Nat → Int64} (h : ∀ i, m ≤ i → X i = sl_src z i) : agr n m z (sl_src' z X) :=
  ⟨all9 (fun _ _ => rfl) (fun _ _ => rfl) (fun _ _ => rfl) (fun _ _ => rfl) (fun _ _ => rfl) (fun _ _ => rfl) (fun _ _ => rfl) (fun _ _ => rfl) (fun _ _ => rfl), all3 (fun _ _ => rfl) (fun _ _ => rfl) (fun _ _ => rfl), h⟩
theorem upd_o {f : Nat → Int32} {j n : Nat} {x : Int32} (hj : j < n) : ∀ i, n ≤ i → upd f j x i = f i := fun i hi => pk_un (by omega)
theorem updL_o {f : Nat → Int64} {j n : Nat} {x : Int64} (hj : j < n) : ∀ i, n ≤ i → vp_updL f j x i = f i := fun i hi => pk_uLn (by omega)
theorem agr_w0 {n m j : Nat} {z : Sl} (hj : j < n) : agr n m z (wrk0 z j) :=
  (((agr_W (upd_o hj) (upd_o hj) (upd_o hj)).tr (agrI 8 (sm_wt _ _) (upd_o hj))).tr (agrL 1 (sm_wf _ _) (updL_o hj))).tr (agrL 2 (sm_ws _ _) (updL_o hj))
theorem LK.agr {n m j : Nat} {z z' : Sl} {wc wc' : Nat} {wl wl' : Nat → Int32} (hj : j < n) (h : LK z wc wl j z' wc' wl') : agr n m z z' := by
  rcases h with ⟨-, rfl, -⟩ | ⟨-, -, rfl, -⟩ | ⟨-, -, ⟨-, rfl⟩ | ⟨-, rfl⟩, -⟩
  · exact agr_st (upd_o hj)
  · exact agr.rf _
  · exact (agr_w0 hj).tr (agr_st (upd_o hj))
  · exact ((agr_w0 hj).tr (agr_st (upd_o hj))).tr (agrL 0 (sm_num _ _) (updL_o hj))
theorem LKS.agr {n m : Nat} {o : Nat → Nat} : ∀ {i : Nat} {z : Sl} {wc : Nat} {wl : Nat → Int32} {z' : Sl} {wc' : Nat} {wl' : Nat → Int32}, (∀ j, j < i → o j < n) → LKS o i z wc wl z' wc' wl' → agr n m z z'
  | 0, z, _, _, _, _, _, _, ⟨e, _⟩ => by rw [e]; exact agr.rf z
  | i + 1, _, _, _, _, _, _, ho, ⟨_, _, _, h, h'⟩ => (LKS.agr (fun j hj => ho j (by omega)) h).tr (h'.agr (ho i (by omega)))
theorem LK.det {j : Nat} {z z' z'' : Sl} {wc wc' wc'' : Nat} {wl wl' wl'' : Nat → Int32} (h : LK z wc wl j z' wc' wl') (h' : LK z wc wl j z'' wc'' wl'') : z' = z'' ∧ wc' = wc'' ∧ wl' = wl'' := by
  rcases h with ⟨a, rfl, rfl, rfl⟩ | ⟨a, b, rfl, rfl, rfl⟩ | ⟨a, b, c, rfl, rfl⟩
  · rcases h' with ⟨_, rfl, rfl, rfl⟩ | ⟨a', _⟩ | ⟨a', _⟩
    · exact ⟨rfl, rfl, rfl⟩
    · exact absurd a a'
    · exact absurd a a'
  · rcases h' with ⟨a', _⟩ | ⟨_, b', rfl, rfl, rfl⟩ | ⟨_, b', _⟩
    · exact absurd a' a
    · exact ⟨rfl, rfl, rfl⟩
    · exact absurd b' b
  · rcases h' with ⟨a', _⟩ | ⟨_, b', _⟩ | ⟨_, _, c', rfl, rfl⟩
    · exact absurd a' a
    · exact absurd b b'
    · refine ⟨?_, rfl, rfl⟩
      rcases c with ⟨c1, rfl⟩ | ⟨c1, rfl⟩ <;> rcases c' with ⟨c2, rfl⟩ | ⟨c2, rfl⟩
      · rfl
      · exact absurd c1 c2
      · exact absurd c2 c1
      · rfl
theorem LKS.det {o : Nat → Nat} : ∀ {i : Nat} {z : Sl} {wc : Nat} {wl : Nat → Int32} {z' z'' : Sl} {wc' wc'' : Nat} {wl' wl'' : Nat → Int32}, LKS o i z wc wl z' wc' wl' → LKS o i z wc wl z'' wc'' wl'' → z' = z'' ∧ wc' = wc'' ∧ wl' = wl''
  | 0, _, _, _, _, _, _, _, _, _, ⟨a, b, c⟩, ⟨a', b', c'⟩ => ⟨a.trans a'.symm, b.trans b'.symm, c.trans c'.symm⟩
  | i + 1, _, _, _, _, _, _, _, _, _, ⟨z1, w1, l1, h, k⟩, ⟨z2, w2, l2, h', k'⟩ => by
    obtain ⟨rfl, rfl, rfl⟩ := LKS.det h h'
    exact k.det k'
theorem mkc_rp {n : Nat} {ic ic' st : Nat → Int32} {P : Nat → Prop} (h : rp n ic P) (h' : rp n ic' P) : mkc n ic st = mkc n ic' st := by
  funext i
  unfold mkc
  by_cases c : i < n
  · have : ic i = ic' i := by
      rcases h i c with ⟨a, b⟩ | ⟨a, b⟩ <;> rcases h' i c with ⟨a', b'⟩ | ⟨a', b'⟩
      · rw [a, a']
      · exact absurd b b'
      · exact absurd b' b
      · rw [a, a']
    rw [this]
  · rw [if_neg (fun q => c q.1), if_neg (fun q => c q.1)]
/-- the two runs leave the same -/
theorem run_same {n : Nat} {z : Sl} {ic ic' : Nat → Int32} {o o' : Nat → Nat} {pl pl' wc1 wc2 : Nat} {wl wl1 wl2 : Nat → Int32} {z1 z2 : Sl} (r1 : rp n ic (circ z.1 n)) (p1 : PSQ z.1 n (circ z.1 n) o pl) (x1 : NX z.1 n (pmk (circ z.1 n) o pl)) (L1 : LKS o pl (sl_st' z (mkc n ic (sl_st z))) 0 wl z1 wc1 wl1)
    (r2 : rp n ic' (circ z.1 n)) (p2 : PSQ z.1 n (circ z.1 n) o' pl') (x2 : NX z.1 n (pmk (circ z.1 n) o' pl')) (L2 : LKS o' pl' (sl_st' z (mkc n ic' (sl_st z))) 0 wl z2 wc2 wl2) : z1 = z2 ∧ wc1 = wc2 ∧ wl1 = wl2 := by
  have e : pl = pl' := Nat.le_antisymm (p2.le p1 x2) (p1.le p2 x1)
  subst e
  rw [mkc_rp r2 r1] at L2
  exact L1.det (L2.congr (fun j hj => (p1.same p2 pl (Nat.le_refl _) (Nat.le_refl _) j hj).symm))
theorem RGF_same {T : FT} {n rl rl' : Nat} {rg rg' : Nat → Int32} (h : RGF T n rg rl) (h' : RGF T n rg' rl') : rl = rl' ∧ ∀ j, j < rl → rg j = rg' j := by
  rcases h with ⟨a, b⟩ | ⟨a, b, s, r, c, d, e⟩
  · rcases h' with ⟨a', b'⟩ | ⟨a', b', s', r', c', d', e'⟩
    · exact ⟨a.trans a'.symm, fun j hj => by omega⟩
    · exact absurd (circ_of c'.1 c'.2.1) (b s')
  · rcases h' with ⟨a', b'⟩ | ⟨a', b', s', r', c', d', e'⟩
    · exact absurd (circ_of c.1 c.2.1) (b' s)
    · obtain ⟨rfl, rfl⟩ := c.uniq c'
      exact ⟨rfl, fun j hj => by rw [e j hj, e' j hj, d.uniq d' j hj]⟩
