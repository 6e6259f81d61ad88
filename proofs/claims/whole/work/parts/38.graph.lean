-- the cells as a graph: walks, least lengths, the class's search
def okx (n m : Nat) (x : Int32) : Prop := (x < 0 ∧ vp_in (-1 - x) m) ∨ ∃ y, y < n ∧ x = nI y
def wfg (n m : Nat) (T : FT) : Prop := ∀ c, c < n → okx n m (T.2.1 c) ∧ okx n m (T.2.2 c)
def ed (T : FT) (c y : Nat) : Prop := T.2.1 c = nI y ∨ T.2.2 c = nI y
def wk (T : FT) (n : Nat) : Nat → Nat → Nat → Prop
  | 0, c, x => c = x
  | e + 1, c, x => ∃ y, y < n ∧ ed T c y ∧ wk T n e y x
theorem wk_snoc {T : FT} {n : Nat} : ∀ {e c y x : Nat}, wk T n e c y → x < n → ed T y x → wk T n (e + 1) c x
  | 0, c, y, x, h, hx, he => by
    have h' : c = y := h
    subst h'
    exact ⟨x, hx, he, rfl⟩
  | e + 1, c, y, x, ⟨u, hu, h1, h2⟩, hx, he => ⟨u, hu, h1, wk_snoc h2 hx he⟩
theorem wk_last {T : FT} {n : Nat} : ∀ {e c x : Nat}, c < n → wk T n (e + 1) c x → ∃ y, y < n ∧ wk T n e c y ∧ ed T y x ∧ x < n
  | 0, c, x, hc, ⟨y, hy, h1, h2⟩ => by
    have h' : y = x := h2
    subst h'
    exact ⟨c, hc, rfl, h1, hy⟩
  | e + 1, c, x, hc, ⟨y, hy, h1, h2⟩ => by
    obtain ⟨u, hu, h3, h4, h5⟩ := wk_last hy h2
    exact ⟨u, hu, ⟨y, hy, h1, h3⟩, h4, h5⟩
/-- the least number of uses, one at least -/
def LD (T : FT) (n e c x : Nat) : Prop := 1 ≤ e ∧ wk T n e c x ∧ ∀ e', 1 ≤ e' → wk T n e' c x → e ≤ e'
theorem LD.uniq {T : FT} {n e e' c x : Nat} (h : LD T n e c x) (h' : LD T n e' c x) : e = e' := Nat.le_antisymm (h.2.2 _ h'.1 h'.2.1) (h'.2.2 _ h.1 h.2.1)
def NW (T : FT) (n c x : Nat) : Prop := ∀ e, 1 ≤ e → ¬ wk T n e c x
theorem LD.not {T : FT} {n e c x : Nat} (h : LD T n e c x) (h' : NW T n c x) : False := h' e h.1 h.2.1
theorem cnt_set {p q : Nat → Bool} {y : Nat} (hy : p y = false) (hq : q y = true) (ho : ∀ i, i ≠ y → q i = p i) : ∀ n, cnt q n = cnt p n + (if y < n then 1 else 0)
  | 0 => by simp [cnt]
  | n + 1 => by
    have ih := cnt_set hy hq ho n
    by_cases e : n = y
    · subst e
      rw [cnt_t hq, cnt_f (by rw [hy]; decide), ih, if_neg (Nat.lt_irrefl _), if_pos (Nat.lt_succ_self _)]
    · have h1 : (if y < n + 1 then 1 else 0) = (if y < n then 1 else 0) := by
        by_cases h : y < n
        · rw [if_pos h, if_pos (by omega)]
        · rw [if_neg h, if_neg (by omega)]
      rw [h1, cnt, cnt, ih, ho n e]
      omega
theorem cnt_lt {p : Nat → Bool} {y : Nat} (hy : p y = false) {n : Nat} (h : y < n) : cnt p n < n := by
  have h1 := cnt_set (p := p) (q := va_up p y true) hy (va_up_self _ _ _) (fun i hi => va_up_ne _ _ hi) n
  have h2 := cnt_le (va_up p y true) n
  rw [if_pos h] at h1
  omega
theorem cnt_0 {p : Nat → Bool} : ∀ {n : Nat}, (∀ i, i < n → p i = false) → cnt p n = 0
  | 0, _ => rfl
  | n + 1, h => by rw [cnt_f (by rw [h n (Nat.lt_succ_self n)]; decide)]; exact cnt_0 (fun i hi => h i (Nat.lt_succ_of_lt hi))
/-- the class's search from s: i looked at, k reached, R in that order, D their steps -/
def BI (T : FT) (n s i k : Nat) (R D : Nat → Nat) (rc st : Nat → Int32) : Prop :=
  (∀ j, j < k → R j < n ∧ rc j = nI (R j) ∧ st (R j) = nI (D j) ∧ D j ≤ j ∧ wk T n (D j) s (R j)) ∧ (∀ x, x < n → st x = -1 ∨ ∃ j, j < k ∧ R j = x) ∧ (∀ j j', j ≤ j' → j' < k → D j ≤ D j') ∧ (i < k → ∀ j, j < k → D j ≤ D i + 1) ∧
    (∀ j, j < i → ∀ y, y < n → ed T (R j) y → ∃ l, l < k ∧ R l = y ∧ D l ≤ D j + 1) ∧ k = cnt (fun x => decide (¬ st x = -1)) n ∧ 0 < k ∧ R 0 = s ∧ D 0 = 0
theorem nI_m1 {n : Nat} (h : n < 2 ^ 31) : ¬ nI n = -1 := fun q => by
  have := nI_pos h
  rw [q] at this
  exact this (by decide)
theorem BI.le {T : FT} {n s i k : Nat} {R D : Nat → Nat} {rc st : Nat → Int32} (h : BI T n s i k R D rc st) : k ≤ n := by
  rw [h.2.2.2.2.2.1]; exact cnt_le _ _
theorem BI.lt {T : FT} {n s i k y : Nat} {R D : Nat → Nat} {rc st : Nat → Int32} (h : BI T n s i k R D rc st) (hy : y < n) (hs : st y = -1) : k < n := by
  rw [h.2.2.2.2.2.1]; exact cnt_lt (by simp [hs]) hy
theorem BI.add {T : FT} {n s i k y : Nat} {R D : Nat → Nat} {rc st : Nat → Int32} (hn : n ≤ 150) (hB : BI T n s i k R D rc st) (hik : i < k) (hy : y < n) (he : ed T (R i) y) (hs : st y = -1) :
    BI T n s i (k + 1) (va_up R k y) (va_up D k (D i + 1)) (upd rc k (nI y)) (upd st y (nI (D i + 1))) := by
  have hkn := hB.lt hy hs
  obtain ⟨h1, h2, h3, h4, h5, h6, h7, h8, h9⟩ := hB
  have hne : ∀ j, j < k → R j ≠ y := fun j hj q => by
    have := (h1 j hj).2.2.1
    rw [q, hs] at this
    exact nI_m1 (by have := (h1 j hj).2.2.2.1; omega) this.symm
  have rne : ∀ j, j < k → va_up R k y j = R j := fun j hj => va_up_ne _ _ (by omega)
  have dne : ∀ j, j < k → va_up D k (D i + 1) j = D j := fun j hj => va_up_ne _ _ (by omega)
  refine ⟨fun j hj => ?_, fun x hx => ?_, fun j j' hj hj' => ?_, fun _ j hj => ?_, fun j hj u hu heu => ?_, ?_, by omega, (rne 0 h7).trans h8, (dne 0 h7).trans h9⟩
  · by_cases e : j = k
    · subst e
      rw [va_up_self, va_up_self, pk_us, pk_us]
      exact ⟨hy, rfl, rfl, by have := (h1 i hik).2.2.2.1; omega, wk_snoc (h1 i hik).2.2.2.2 hy he⟩
    · have hj' : j < k := by omega
      rw [rne j hj', dne j hj', pk_un e, pk_un (hne j hj')]
      exact h1 j hj'
  · by_cases e : x = y
    · subst e
      exact Or.inr ⟨k, by omega, va_up_self _ _ _⟩
    · rcases h2 x hx with q | ⟨j, q, q2⟩
      · left; rw [pk_un e]; exact q
      · exact Or.inr ⟨j, by omega, (rne j q).trans q2⟩
  · by_cases e : j' = k
    · subst e
      rw [va_up_self]
      by_cases e2 : j = j'
      · subst e2; rw [va_up_self]; exact Nat.le_refl _
      · rw [dne j (by omega)]; exact h4 hik j (by omega)
    · rw [dne j (by omega), dne j' (by omega)]; exact h3 j j' hj (by omega)
  · rw [dne i hik]
    by_cases e : j = k
    · subst e; rw [va_up_self]; exact Nat.le_refl _
    · rw [dne j (by omega)]; exact h4 hik j (by omega)
  · have hjk : j < k := by omega
    rw [rne j hjk] at heu
    obtain ⟨l, hl, hl2, hl3⟩ := h5 j hj u hu heu
    exact ⟨l, by omega, (rne l hl).trans hl2, by rw [dne l hl, dne j hjk]; exact hl3⟩
  · rw [cnt_set (p := fun x => decide (¬ st x = -1)) (y := y) (by simp [hs]) (by simp only [pk_us]; exact decide_eq_true (nI_m1 (by have := (h1 i hik).2.2.2.1; omega))) (fun x hx => by simp only [pk_un hx]) n, if_pos hy, ← h6]
theorem BI.start {T : FT} {n s : Nat} {rc st : Nat → Int32} (hs : s < n) (h0 : ∀ x, x < n → st x = -1) : BI T n s 0 1 (fun _ => s) (fun _ => 0) (upd rc 0 (nI s)) (upd st s 0) := by
  refine ⟨fun j hj => ?_, fun x hx => ?_, fun j j' hj hj' => Nat.le_refl _, fun _ j hj => Nat.zero_le _, fun j hj => by omega, ?_, by omega, rfl, rfl⟩
  · have e : j = 0 := by omega
    subst e
    rw [pk_us, pk_us]
    exact ⟨hs, rfl, rfl, Nat.le_refl _, rfl⟩
  · by_cases e : x = s
    · exact Or.inr ⟨0, by omega, e.symm⟩
    · left; rw [pk_un e]; exact h0 x hx
  · rw [cnt_set (p := fun x => decide (¬ st x = -1)) (y := s) (by simp [h0 s hs]) (by simp only [pk_us]; decide) (fun x hx => by simp only [pk_un hx]) n, if_pos hs, cnt_0 (fun x hx => by simp [h0 x hx])]
theorem BI.next {T : FT} {n m s i k : Nat} {R D : Nat → Nat} {rc st : Nat → Int32} (hB : BI T n s i k R D rc st) (hik : i < k) (hw : wfg n m T) (hn : n ≤ 150)
    (ha : ∀ y, y < n → T.2.1 (R i) = nI y → ¬ st y = -1) (hb : ∀ y, y < n → T.2.2 (R i) = nI y → ¬ st y = -1) : BI T n s (i + 1) k R D rc st := by
  obtain ⟨h1, h2, h3, h4, h5, h6, h7, h8, h9⟩ := hB
  refine ⟨h1, h2, h3, fun c j hj => ?_, fun j hj y hy he => ?_, h6, h7, h8, h9⟩
  · have := h4 hik j hj
    have := h3 i (i + 1) (by omega) c
    omega
  · by_cases c : j < i
    · exact h5 j c y hy he
    · have e : j = i := by omega
      subst e
      have hne : ¬ st y = -1 := he.elim (fun q => ha y hy q) (fun q => hb y hy q)
      rcases h2 y hy with q | ⟨l, q, q2⟩
      · exact absurd q hne
      · exact ⟨l, q, q2, h4 hik l q⟩
/-- the search's end: all that is come to, by least steps -/
theorem BI.far {T : FT} {n s k : Nat} {R D : Nat → Nat} {rc st : Nat → Int32} (hB : BI T n s k k R D rc st) : ∀ (e j x : Nat), j < k → wk T n e (R j) x → ∃ l, l < k ∧ R l = x ∧ D l ≤ D j + e
  | 0, j, x, hj, h => ⟨j, hj, h, by omega⟩
  | e + 1, j, x, hj, ⟨y, hy, h1, h2⟩ => by
    obtain ⟨l, hl, hl2, hl3⟩ := hB.2.2.2.2.1 j hj y hy h1
    rw [← hl2] at h2
    obtain ⟨u, hu, hu2, hu3⟩ := BI.far hB e l x hl h2
    exact ⟨u, hu, hu2, by omega⟩
theorem BI.all {T : FT} {n s k : Nat} {R D : Nat → Nat} {rc st : Nat → Int32} (hB : BI T n s k k R D rc st) {e x : Nat} (h : wk T n e s x) : ∃ l, l < k ∧ R l = x ∧ D l ≤ e := by
  obtain ⟨h1, h2, h3, h4, h5, h6, h7, h8, h9⟩ := id hB
  rw [← h8] at h
  obtain ⟨l, a, b, c⟩ := hB.far e 0 x h7 h
  exact ⟨l, a, b, by omega⟩
theorem BI.LD {T : FT} {n s k g j : Nat} {R D : Nat → Nat} {rc st : Nat → Int32} (hB : BI T n s k k R D rc st) (hs : s < n) (hg : g < n) (hj : j < k) (he : ed T (R j) g) (hf : ∀ l, l < j → ¬ ed T (R l) g) : LD T n (D j + 1) s g := by
  obtain ⟨h1, h2, h3, h4, h5, h6, h7, h8, h9⟩ := id hB
  refine ⟨by omega, wk_snoc (h1 j hj).2.2.2.2 hg he, fun e' he1 hw => ?_⟩
  obtain ⟨e, rfl⟩ : ∃ e, e' = e + 1 := ⟨e' - 1, by omega⟩
  obtain ⟨y, hy, hy2, hy3, -⟩ := wk_last hs hw
  obtain ⟨l, hl, hl2, hl3⟩ := hB.all hy2
  rw [← hl2] at hy3
  have : ¬ l < j := fun c => hf l c hy3
  have := h3 j l (by omega) hl
  omega
theorem BI.NW {T : FT} {n s k g : Nat} {R D : Nat → Nat} {rc st : Nat → Int32} (hB : BI T n s k k R D rc st) (hs : s < n) (hf : ∀ l, l < k → ¬ ed T (R l) g) : NW T n s g := by
  intro e' he1 hw
  obtain ⟨e, rfl⟩ : ∃ e, e' = e + 1 := ⟨e' - 1, by omega⟩
  obtain ⟨y, hy, hy2, hy3, -⟩ := wk_last hs hw
  obtain ⟨l, hl, hl2, hl3⟩ := hB.all hy2
  rw [← hl2] at hy3
  exact hf l hl hy3
