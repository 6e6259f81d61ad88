-- the joint invariant
def JV (n m : Nat) (z : Sl) (nx sz : Nat) (N : Nat → Nat × Nat × Nat) (Z : Nat → Sl) (H : Nat → Sl) (pc : Nat) (C : Nat → Nat × FT × FT) (wc : Nat) : Prop :=
  CB n m z nx sz N pc C wc ∧ (∀ u, u < sz → N ((nx + 16 - sz + u) % 16) = (n, m, n) ∧ sl_cpy n m n (Z ((nx + 16 - sz + u) % 16)) z = H u ∧ wfg n m (H u).1) ∧ ∀ p, p < pc → (C p).1 ≤ n ∧ wfg (C p).1 m (C p).2.2
theorem wfg_put {n m j : Nat} {T : FT} {o a b : Int32} (h : wfg n m T) (ha : okx n m a) (hb : okx n m b) : wfg n m (upd T.1 j o, upd T.2.1 j a, upd T.2.2 j b) := fun c hc => by
  show okx n m (upd T.2.1 j a c) ∧ okx n m (upd T.2.2 j b c)
  by_cases e : c = j
  · subst e; rw [pk_us, pk_us]; exact ⟨ha, hb⟩
  · rw [pk_un e, pk_un e]; exact h c hc
theorem wfg_new {n m : Nat} {T : FT} {o a b : Int32} (hm : m ≤ 60) (h : wfg n m T) (ha : okx (n + 1) m a) (hb : okx (n + 1) m b) : wfg (n + 1) m (upd T.1 n o, upd T.2.1 n a, upd T.2.2 n b) := fun c hc => by
  show okx (n + 1) m (upd T.2.1 n a c) ∧ okx (n + 1) m (upd T.2.2 n b c)
  by_cases e : c = n
  · subst e; rw [pk_us, pk_us]; exact ⟨ha, hb⟩
  · rw [pk_un e, pk_un e]
    obtain ⟨h1, h2⟩ := h c (by omega)
    exact ⟨h1.mono (by omega) (Nat.le_refl _) (by omega), h2.mono (by omega) (Nat.le_refl _) (by omega)⟩
theorem wfg_fcp {n m : Nat} {T U : FT} (h : wfg n m T) : wfg n m (fcp n T U) := fun c hc => by
  show okx n m (va_cpy T.2.1 U.2.1 0 0 n c) ∧ okx n m (va_cpy T.2.2 U.2.2 0 0 n c)
  rw [va_cpy_i hc, va_cpy_i hc]; exact h c hc
theorem wfg_jn {n m : Nat} {T : FT} {c : Nat × FT × FT} (hm : m ≤ 60) (h : wfg n m T) (hc : c.1 ≤ n) (hw : wfg c.1 m c.2.2) : wfg n m (jnF T c) := fun i hi => by
  show okx n m (gvx c.1 c.2.1 c.2.2 c.2.2.2.1 T.2.1 i) ∧ okx n m (gvx c.1 c.2.1 c.2.2 c.2.2.2.2 T.2.2 i)
  unfold gvx
  by_cases q : i < c.1 ∧ fsb c.2.2 c.2.1 i = false
  · rw [if_pos q, if_pos q]
    obtain ⟨h1, h2⟩ := hw i q.1
    exact ⟨h1.mono hc (Nat.le_refl _) (by omega), h2.mono hc (Nat.le_refl _) (by omega)⟩
  · rw [if_neg q, if_neg q]; exact h i hi
theorem gvx_o {n k : Nat} {T U : FT} {u x : Nat → Int32} (hk : k ≤ n) : ∀ i, n ≤ i → gvx k T U u x i = x i := fun i hi => by
  unfold gvx; rw [if_neg (fun q => by omega)]
section Jv
variable {n m : Nat} {z : Sl} {nx sz : Nat} {N : Nat → Nat × Nat × Nat} {Z : Nat → Sl} {H : Nat → Sl} {pc : Nat} {C : Nat → Nat × FT × FT} {wc : Nat}
theorem JV.keep (h : JV n m z nx sz N Z H pc C wc) {z' : Sl} (ha : agr n m z z') (hw : wfg n m z'.1) {C' : Nat → Nat × FT × FT} (hC : ∀ p, p < pc → (C' p).1 ≤ n ∧ wfg (C' p).1 m (C' p).2.2) (hC4 : ∀ i, i < 4 → (C' i).1 ≤ 150) {wc' : Nat} (hwc : wc' ≤ 150) : JV n m z' (kx nx) (kz sz) (kN N nx n m) (kZ Z nx n m z) (kH H sz z) pc C' wc' := by
  obtain ⟨⟨b1, b2, b3, b4, b5, b6, b7, b8, b9⟩, h2, h3⟩ := h
  refine ⟨⟨b1, b2, hw, by unfold kx; omega, by unfold kz; split <;> omega, fun i hi => ?_, b7, hC4, hwc⟩, fun u hu => ?_, hC⟩
  · unfold kN
    by_cases e : i = nx
    · subst e; rw [va_up_self]; exact ⟨b1, b2, b1⟩
    · rw [va_up_ne _ _ e]; exact b6 i hi
  · unfold kN kZ
    have last : ∀ j, j = nx → va_up N nx (n, m, n) j = (n, m, n) ∧ sl_cpy n m n (va_up Z nx (sl_cpy n m n z (Z nx)) j) z' = z ∧ wfg n m z.1 := fun j e => by
      subst e
      rw [va_up_self, va_up_self, cpy_agr ha, cpy_self]
      exact ⟨rfl, rfl, b3⟩
    have old : ∀ j u', u' < sz → j = (nx + 16 - sz + u') % 16 → j ≠ nx → va_up N nx (n, m, n) j = (n, m, n) ∧ sl_cpy n m n (va_up Z nx (sl_cpy n m n z (Z nx)) j) z' = H u' ∧ wfg n m (H u').1 := fun j u' hu' ej ne => by
      rw [va_up_ne _ _ ne, va_up_ne _ _ ne, cpy_agr ha, ej]
      exact h2 u' hu'
    unfold kx kH
    by_cases c : sz < 16
    · have hk : kz sz = sz + 1 := by unfold kz; rw [if_pos c]
      rw [hk] at hu ⊢
      rw [if_pos c]
      by_cases e : u = sz
      · subst e
        rw [va_up_self]
        exact last _ (by omega)
      · rw [va_up_ne _ _ e]
        exact old _ u (by omega) (by omega) (by omega)
    · have hk : kz sz = sz := by unfold kz; rw [if_neg c]
      rw [hk] at hu ⊢
      rw [if_neg c]
      have e16 : sz = 16 := by omega
      by_cases e : u = 15
      · subst e
        rw [va_up_self]
        exact last _ (by omega)
      · rw [va_up_ne _ _ e]
        exact old _ (u + 1) (by omega) (by omega) (by omega)
theorem JV.none {n' m' pc' : Nat} {z' : Sl} {C' : Nat → Nat × FT × FT} (hB : CB n' m' z' nx 0 N pc' C' wc) (hC : ∀ p, p < pc' → (C' p).1 ≤ n' ∧ wfg (C' p).1 m' (C' p).2.2) : JV n' m' z' nx 0 N Z H pc' C' wc := ⟨hB, fun u hu => absurd hu (Nat.not_lt_zero u), hC⟩
theorem JV.source (h : JV n m z nx sz N Z H pc C wc) (hm : m < 60) (v : Int64) : JV n (m + 1) (sl_src' z (vp_updL (sl_src z) m v)) nx 0 N Z H pc C wc := by
  obtain ⟨⟨b1, b2, b3, b4, b5, b6, b7, b8, b9⟩, h2, h3⟩ := h
  exact JV.none ⟨b1, by omega, wfg.mono b3 (by omega) (by omega), b4, by omega, b6, b7, b8, b9⟩ (fun p hp => ⟨(h3 p hp).1, (h3 p hp).2.mono (by omega) (by omega)⟩)
theorem JV.cell (h : JV n m z nx sz N Z H pc C wc) (hn : n < 150) {o a b : Int32} (ho : okop m (nI (n + 1)) o a b) : JV (n + 1) m (sl_st' (sl_F z (upd (sl_o z) n o) (upd (sl_a z) n a) (upd (sl_b z) n b)) (upd (sl_st z) n 4)) nx 0 N Z H pc C wc := by
  obtain ⟨⟨b1, b2, b3, b4, b5, b6, b7, b8, b9⟩, h2, h3⟩ := h
  exact JV.none ⟨by omega, b2, wfg_new b2 b3 ((opnd_iff b2 (by omega)).mp ho.2.1) ((opnd_iff b2 (by omega)).mp ho.2.2), b4, by omega, b6, b7, b8, b9⟩ (fun p hp => ⟨Nat.le_succ_of_le (h3 p hp).1, (h3 p hp).2⟩)
theorem JV.change (h : JV n m z nx sz N Z H pc C wc) {j : Nat} (hj : j < m) (v : Int64) : JV n m (sl_src' z (vp_updL (sl_src z) j v)) (kx nx) (kz sz) (kN N nx n m) (kZ Z nx n m z) (kH H sz z) pc C wc :=
  h.keep (agr_src (updL_o hj)) h.1.2.2.1 h.2.2 h.1.2.2.2.2.2.2.2.1 h.1.2.2.2.2.2.2.2.2
theorem JV.fail (h : JV n m z nx sz N Z H pc C wc) {j : Nat} (hj : j < n) (b : Int32) : JV n m (sl_told' z (upd (sl_told z) j b)) (kx nx) (kz sz) (kN N nx n m) (kZ Z nx n m z) (kH H sz z) pc C wc :=
  h.keep (agr_told (upd_o hj)) h.1.2.2.1 h.2.2 h.1.2.2.2.2.2.2.2.1 h.1.2.2.2.2.2.2.2.2
theorem JV.edit (h : JV n m z nx sz N Z H pc C wc) {j : Nat} (hj : j < n) {o a b : Int32} (ho : okop m (nI n) o a b) : JV n m (sl_F z (upd (sl_o z) j o) (upd (sl_a z) j a) (upd (sl_b z) j b)) (kx nx) (kz sz) (kN N nx n m) (kZ Z nx n m z) (kH H sz z) pc C wc :=
  h.keep (agr_F (upd_o hj) (upd_o hj) (upd_o hj)) (wfg_put h.1.2.2.1 ((opnd_iff h.1.2.1 (Nat.le_succ_of_le h.1.1)).mp ho.2.1) ((opnd_iff h.1.2.1 (Nat.le_succ_of_le h.1.1)).mp ho.2.2)) h.2.2 h.1.2.2.2.2.2.2.2.1 h.1.2.2.2.2.2.2.2.2
theorem JV.run (h : JV n m z nx sz N Z H pc C wc) {ic : Nat → Int32} {o : Nat → Nat} {pl wc' : Nat} {wl wl' : Nat → Int32} {z' : Sl} (p1 : PSQ z.1 n (circ z.1 n) o pl) (L1 : LKS o pl (sl_st' z (mkc n ic (sl_st z))) 0 wl z' wc' wl') (hw : wc' ≤ 150) : JV n m z' (kx nx) (kz sz) (kN N nx n m) (kZ Z nx n m z) (kH H sz z) pc C wc' := by
  have h1 : agr n m z (sl_st' z (mkc n ic (sl_st z))) := agr_st (fun i hi => by unfold mkc; rw [if_neg (fun q => by omega)])
  refine h.keep (h1.tr (L1.agr (fun j hj => (p1 j hj).1))) ?_ h.2.2 h.1.2.2.2.2.2.2.2.1 hw
  rw [L1.fst]
  exact h.1.2.2.1
theorem JV.person (h : JV n m z nx sz N Z H pc C wc) (hp : pc < 4) : JV n m z nx 0 N Z H (pc + 1) (va_up C pc (n, fcp n z.1 (C pc).2.1, fcp n z.1 (C pc).2.2)) wc := by
  obtain ⟨⟨b1, b2, b3, b4, b5, b6, b7, b8, b9⟩, h2, h3⟩ := h
  refine JV.none ⟨b1, b2, b3, b4, by omega, b6, by omega, fun i hi => ?_, b9⟩ (fun p hp2 => ?_)
  · by_cases e : i = pc
    · subst e; rw [va_up_self]; exact b1
    · rw [va_up_ne _ _ e]; exact b8 i hi
  · by_cases e : p = pc
    · subst e; rw [va_up_self]; exact ⟨Nat.le_refl _, wfg_fcp b3⟩
    · rw [va_up_ne _ _ e]; exact h3 p (by omega)
theorem JV.write (h : JV n m z nx sz N Z H pc C wc) {j i : Nat} (hj : j < pc) {o a b : Int32} (ho : okop m (nI (C j).1) o a b) : JV n m z nx sz N Z H pc (va_up C j ((C j).1, (C j).2.1, fpt (C j).2.2 i o a b)) wc := by
  obtain ⟨⟨b1, b2, b3, b4, b5, b6, b7, b8, b9⟩, h2, h3⟩ := h
  have hj2 := h3 j hj
  refine ⟨⟨b1, b2, b3, b4, b5, b6, b7, fun i hi => ?_, b9⟩, h2, fun p hp => ?_⟩
  · by_cases e : i = j
    · subst e; rw [va_up_self]; exact b8 i hi
    · rw [va_up_ne _ _ e]; exact b8 i hi
  · by_cases e : p = j
    · subst e
      rw [va_up_self]
      exact ⟨hj2.1, wfg_put hj2.2 ((opnd_iff b2 (by omega)).mp ho.2.1) ((opnd_iff b2 (by omega)).mp ho.2.2)⟩
    · rw [va_up_ne _ _ e]; exact h3 p hp
theorem JV.join (h : JV n m z nx sz N Z H pc C wc) {j : Nat} (hj : j < pc) : JV n m (sl_F z (jnF z.1 (C j)).1 (jnF z.1 (C j)).2.1 (jnF z.1 (C j)).2.2) (kx nx) (kz sz) (kN N nx n m) (kZ Z nx n m z) (kH H sz z) pc (va_up C j (n, fcp n (jnF z.1 (C j)) (C j).2.1, fcp n (jnF z.1 (C j)) (C j).2.2)) wc := by
  obtain ⟨⟨b1, b2, b3, b4, b5, b6, b7, b8, b9⟩, h2, h3⟩ := id h
  have hj2 := h3 j hj
  have hw := wfg_jn b2 b3 hj2.1 hj2.2
  refine h.keep (agr_F (gvx_o hj2.1) (gvx_o hj2.1) (gvx_o hj2.1)) hw (fun p hp => ?_) (fun i hi => ?_) b9
  · by_cases e : p = j
    · subst e; rw [va_up_self]; exact ⟨Nat.le_refl _, wfg_fcp hw⟩
    · rw [va_up_ne _ _ e]; exact h3 p hp
  · by_cases e : i = j
    · subst e; rw [va_up_self]; exact b1
    · rw [va_up_ne _ _ e]; exact b8 i hi
theorem JV.top (h : JV n m z nx sz N Z H pc C wc) (hs : 0 < sz) {j : Nat} (ej : j = (nx + 15) % 16) : N j = (n, m, n) ∧ sl_cpy n m n (Z j) z = H (sz - 1) := by
  have hz := h.1.2.2.2.2.1
  have hn := h.1.2.2.2.1
  have := h.2.1 (sz - 1) (by omega)
  have e : (nx + 16 - sz + (sz - 1)) % 16 = j := by omega
  rw [e] at this
  exact ⟨this.1, this.2.1⟩
theorem JV.undo (h : JV n m z nx sz N Z H pc C wc) (hs : 0 < sz) {j : Nat} (ej : j = (nx + 15) % 16) : JV n m (H (sz - 1)) j (sz - 1) N Z H pc C 0 := by
  have ht := h.top hs ej
  obtain ⟨⟨b1, b2, b3, b4, b5, b6, b7, b8, b9⟩, h2, h3⟩ := id h
  refine ⟨⟨b1, b2, (h2 (sz - 1) (by omega)).2.2, by omega, by omega, b6, b7, b8, by omega⟩, fun u hu => ?_, h3⟩
  have e : (j + 16 - (sz - 1) + u) % 16 = (nx + 16 - sz + u) % 16 := by omega
  rw [e, ← ht.2, cpy_agr agr_cpy]
  exact h2 u (by omega)
end Jv
section Jh
variable {ad : Nat → Nat} {h h' : am_H} {t : Int32} {n m : Nat} {z : Sl} {nx sz : Nat} {N : Nat → Nat × Nat × Nat} {Z : Nat → Sl} {H : Nat → Sl} {pc : Nat} {C : Nat → Nat × FT × FT} {wc : Nat} {wl : Nat → Int32} {wa : Int32} {f : Nat → Int64}
theorem CW.fr (hW : CW ad h n m z nx sz N Z pc C wc wl wa) (hk : ∀ p, p < 322 → h' (ad p) = h (ad p)) : CW ad h' n m z nx sz N Z pc C wc wl wa := by
  obtain ⟨h1, h2, h3, h4, h5, h6⟩ := hW
  exact ⟨(hk 0 (by decide)).trans h1, h2.fr5 (fun p _ b => hk p (by omega)), h3.frame (fun p _ b => hk p (by omega)), h4.frame (fun p _ b => hk p (by omega)), h5.frame (fun p _ b => hk p (by omega)), (hk 321 (by decide)).trans h6⟩
theorem RW.fr (hR : RW ad h t n m z H sz pc C wc wl wa) (hk : ∀ p, 322 ≤ p → p < 349 → h' (ad p) = h (ad p)) : RW ad h' t n m z H sz pc C wc wl wa := by
  obtain ⟨A, B, hM, q⟩ := hR
  exact ⟨A, B, hM.frame hk, q⟩
/-- the law's three objects -/
def JJ (ad : Nat → Nat) (h : am_H) (n m : Nat) (z : Sl) (nx sz : Nat) (N : Nat → Nat × Nat × Nat) (Z : Nat → Sl) (H : Nat → Sl) (pc : Nat) (C : Nat → Nat × FT × FT) (wc : Nat) (wl : Nat → Int32) (wa t : Int32) (f : Nat → Int64) : Prop :=
  JV n m z nx sz N Z H pc C wc ∧ CW ad h n m z nx sz N Z pc C wc wl wa ∧ RW ad h t n m z H sz pc C wc wl wa ∧ h (ad 349) = some (.inl (.long, 1, .inr (.inl f)))
def JE (ad : Nat → Nat) (h : am_H) : Prop := ∃ n m z nx sz N Z H pc C wc wl wa t f, JJ ad h n m z nx sz N Z H pc C wc wl wa t f
/-- the class has gone on, the reference not yet -/
def JC (ad : Nat → Nat) (h h0 : am_H) (n m : Nat) (z : Sl) (nx sz : Nat) (N : Nat → Nat × Nat × Nat) (Z : Nat → Sl) (pc : Nat) (C : Nat → Nat × FT × FT) (wc : Nat) (wl : Nat → Int32) (wa : Int32) (f : Nat → Int64) : Prop :=
  CW ad h n m z nx sz N Z pc C wc wl wa ∧ (∀ p, 322 ≤ p → p < 349 → h (ad p) = h0 (ad p)) ∧ h (ad 349) = some (.inl (.long, 1, .inr (.inl f)))
theorem JC.out (hi : am_inj ad) {h0 : am_H} (hC : CW ad h n m z nx sz N Z pc C wc wl wa) (FR : ∀ p, 322 ≤ p → h (ad p) = h0 (ad p)) (X : Nat → Int64) : JC ad (am_set h (ad 349) (.inl (.long, 1, .inr (.inl X)))) h0 n m z nx sz N Z pc C wc wl wa X :=
  ⟨hC.fr (fun p hp => s_ne hi (by omega)), fun p a b => (s_ne hi (by omega)).trans (FR p a), s_eq⟩
theorem JC.nop (hC : CW ad h n m z nx sz N Z pc C wc wl wa) {h0 : am_H} (hf : h (ad 349) = some (.inl (.long, 1, .inr (.inl f)))) (FR : ∀ p, 322 ≤ p → p < 349 → h (ad p) = h0 (ad p)) : JC ad h h0 n m z nx sz N Z pc C wc wl wa f := ⟨hC, FR, hf⟩
theorem JC.je {h0 : am_H} (hJ : JC ad h h0 n m z nx sz N Z pc C wc wl wa f) (hR : RW ad h' t n m z H sz pc C wc wl wa) (hF : fr322 ad h h') (hV : JV n m z nx sz N Z H pc C wc) : JE ad h' ∧ h' (ad 349) = some (.inl (.long, 1, .inr (.inl f))) :=
  ⟨⟨n, m, z, nx, sz, N, Z, H, pc, C, wc, wl, wa, t, f, hV, hJ.1.fr (fun p hp => hF p (Or.inl hp)), hR, (hF 349 (by decide)).trans hJ.2.2⟩, (hF 349 (by decide)).trans hJ.2.2⟩
end Jh
