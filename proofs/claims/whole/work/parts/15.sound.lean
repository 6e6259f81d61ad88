-- THE MACHINE IS SOUND, for every method, at every depth
def am_inv9 : Instr → Bool
  | .invokevirtual _ | .invokespecial _ | .invokestatic _ => true
  | _ => false
def am_ok4 (NM : Nat → Prop) (k : Nat) (i : Instr) (x y : Nat) : Prop := match i with
  | .invokevirtual idx => x < 900 ∧ am_okM NM x ∧ am_okV k idx x y
  | .invokespecial idx => (x = 900 ∧ am_okB k idx 900) ∨ (x < 900 ∧ am_okM NM x ∧ am_okI k idx x y)
  | .invokestatic idx => ((x = 901 ∨ x = 902 ∨ x = 903 ∨ x = 904) ∧ am_okB k idx x) ∨ (x < 900 ∧ am_okM NM x ∧ am_okS k idx x y)
  | _ => False
theorem am_inv_lt {C : am_C} {k : Nat} {K : am_K} {X : am_X} {x y pc : Nat} {lv : am_L} {st : List Value} {h : am_H} {nc ns : Nat} (hx : x < 900) (q : am_inv C k K X x y pc lv st h nc ns) : am_call C k K X x y pc lv st h nc ns := by
  unfold am_inv at q
  split at q
  · omega
  · omega
  · omega
  · omega
  · omega
  · exact q
section Snd
variable {B : Nat} {D : va_G} {G : am_G} {k d : Nat} {p : Program} {l : Launch} {e : Env} {s : State} {m : MethodId} {args : Array Value} {below : List Frame} {meth : Method} {c : Code} {K : am_K} {NM : Nat → Prop}
variable {x y pc idx : Nat} {lv : am_L} {st rest vs : List Value} {h : am_H} {nc ns : Nat} {H : Heap} {locs : List Loc} {ls : Array Slot} {R : Room} {Q : State → Prop}
set_option maxHeartbeats 4000000 in
theorem am_builtin {i : Instr} (hi : (i = .invokespecial idx ∧ x = 900) ∨ (i = .invokestatic idx ∧ (x = 901 ∨ x = 902 ∨ x = 903 ∨ x = 904))) (hR : 3 ≤ R.frames) (hRl : 174 ≤ R.locals) (hrc : R.cells = pg_mc k) (hrs : R.slots = pg_ms k) (hCx : am_Cx B G k p l s m args meth c) (ho : am_okB k idx x) (hd : decode (pg_bytes k) pc = .ok (i, 3))
    {C : am_C} (q : am_inv C k K (am_V B D k p l e R s m args below meth c Q) x y pc lv st h nc ns) : am_V B D k p l e R s m args below meth c Q pc lv st h nc ns := by
  intro ls H locs hl hS hv h1 h2
  obtain ⟨⟨hx, hb, hml, hr, hown, hts, hlocks, hin0⟩, hB, hE, htr, hex⟩ := hCx
  have hml' : c.maxLocals = ls.size := hml.trans hl.1.symm
  have hnw : nativeFrameWords "java/lang/System" "arraycopy" 5 ≤ 100 := by decide +kernel
  rcases hi with ⟨rfl, rfl⟩ | ⟨rfl, rfl | rfl | rfl | rfl⟩
  · obtain ⟨a, r, rfl, hr8, u⟩ := am_sr.out q
    obtain ⟨o1, o2, o3⟩ := ho
    unfold am_words at hr8
    exact W.objInit hx hb hown (hts _ o1) (hts _ o2) (hts _ o3) rfl (hl.1.trans hml.symm) rfl hd (by omega) (by show 2 * 0 + _ + 12 ≤ _; omega) (u ls H locs hl hS hv h1 h2)
  · obtain ⟨a0, sp, a1, dp, n, r, rfl, hr8, u⟩ := am_st5.out q
    obtain ⟨o1, o2, o3, o4⟩ := ho
    unfold am_words at hr8
    obtain ⟨ws, tys, hRl9, hP, hD, hK⟩ := id hS
    unfold am_copy at u
    split at u
    · rename_i t0 n0 f t1 n1 g e0 e1
      obtain ⟨⟨rfl, g2, g3, g4, g5, g6, g7, g8⟩, u⟩ := u
      obtain ⟨q0, t9, cA, hq0, ht9⟩ := hRl9 a0 _ e0
      obtain ⟨q1, t8, cB, hq1, ht8⟩ := hRl9 a1 _ e1
      exact va_copyi hx hb hml' hown (hts _ o1) (hts _ o2) (hts _ o3) (hts _ o4) hK hP hD hv q0 q1 t9 t8 hq0 hq1 ht9 ht8 g2 g3 g4 g5 g6 g7 g8 (by omega) (by omega) hd
        (fun H1 locs1 hP1 hD1 hS1 => u ls H1 locs1 hl ⟨_, tys, hRl9.setA hq1 ht8, hP1, hD1, hK⟩ hS1 h1 h2)
    · rename_i t0 n0 f t1 n1 g e0 e1
      obtain ⟨⟨rfl, rfl, g3, g4, g5, g6, g7⟩, u⟩ := u
      obtain ⟨q0, t9, cA, hq0, ht9⟩ := hRl9 a0 _ e0
      obtain ⟨q1, t8, cB, hq1, ht8⟩ := hRl9 a1 _ e1
      exact va_copyl hx hb hml' hown (hts _ o1) (hts _ o2) (hts _ o3) (hts _ o4) hK hP hD hv q0 q1 t9 t8 hq0 hq1 ht9 ht8 rfl g3 g4 g5 g6 g7 (fun _ _ => rfl) (by omega) (by omega) hd
        (fun H1 locs1 hP1 hD1 hS1 => u ls H1 locs1 hl ⟨_, tys, hRl9.setA hq1 ht8, hP1, hD1, hK⟩ hS1 h1 h2)
    · exact u.elim
  · obtain ⟨a, b, r, rfl, hr8, u⟩ := am_ii.out q
    obtain ⟨o1, o2, o3, o4⟩ := ho
    unfold am_words at hr8
    exact va_mmax hx hb hml' hown (hts _ o1) (hts _ o2) (hts _ o3) (hts _ o4) (by omega) (by omega) (by rw [hrc]; exact h1) (by rw [hrs]; exact h2) hd (u ls H locs hl hS hv h1 h2)
  · obtain ⟨a, b, r, rfl, hr8, u⟩ := am_ii.out q
    obtain ⟨o1, o2, o3, o4⟩ := ho
    unfold am_words at hr8
    exact va_mmin hx hb hml' hown (hts _ o1) (hts _ o2) (hts _ o3) (hts _ o4) (by omega) (by omega) (by rw [hrc]; exact h1) (by rw [hrs]; exact h2) hd (u ls H locs hl hS hv h1 h2)
  · obtain ⟨a, b, r, rfl, hr8, u⟩ := am_lll.out q
    obtain ⟨o1, o2, o3, o4⟩ := ho
    unfold am_words at hr8
    exact va_mmax_long hx hb hml' hown (hts _ o1) (hts _ o2) (hts _ o3) (hts _ o4) (by omega) (by omega) (by rw [hrc]; exact h1) (by rw [hrs]; exact h2) hd (u ls H locs hl hS hv h1 h2)
set_option maxHeartbeats 4000000 in
theorem am_sound4 {i : Instr} (hi : am_inv9 i = true) (IH : am_So NM d) (htab : am_tabok k) (hCx : am_Cx B G k p l s m args meth c) (ho : am_ok4 NM k i x y) (hd : decode (pg_bytes k) pc = .ok (i, 3))
    (q : am_inv (am_M G d) k K (am_V B D k p l e (pg_rm (d + 1) k) s m args below meth c (am_MQ B D K below s (pg_mc k) (pg_ms k))) x y pc lv st h nc ns) : am_V B D k p l e (pg_rm (d + 1) k) s m args below meth c (am_MQ B D K below s (pg_mc k) (pg_ms k)) pc lv st h nc ns := by
  have hf : 3 ≤ (pg_rm (d + 1) k).frames := by simp only [pg_rm]; omega
  have hlo : 174 ≤ (pg_rm (d + 1) k).locals := by simp only [pg_rm]; omega
  cases i <;> first | (cases hi; done) | skip
  case invokevirtual idx =>
    obtain ⟨o1, ⟨o2, o3, o4⟩, o5⟩ := ho
    obtain ⟨⟨q1, q2, q3, q4, q5⟩, q6⟩ := am_inv_lt o1 q
    intro ls H locs hl hS hv h1 h2
    obtain ⟨a, r, e1, e2⟩ := (q5 o5.2.2.2.2.2.1).out
    obtain ⟨fs, ha, -⟩ := e2.out
    exact am_do IH o2 hCx o3 o4 htab hd hl hS hv q2 q3 q4 q6 (am_goV hCx o5 o3 hd hS q1 e1 ha)
  case invokespecial idx =>
    rcases ho with ⟨rfl, ho⟩ | ⟨o1, ⟨o2, o3, o4⟩, o5⟩
    · exact am_builtin (Or.inl ⟨rfl, rfl⟩) hf hlo rfl rfl hCx ho hd q
    · obtain ⟨⟨q1, q2, q3, q4, q5⟩, q6⟩ := am_inv_lt o1 q
      intro ls H locs hl hS hv h1 h2
      obtain ⟨a, r, e1, e2⟩ := (q5 o5.2.2.2.2.2.2).out
      exact am_do IH o2 hCx o3 o4 htab hd hl hS hv q2 q3 q4 q6 (am_goI hCx o5 o3 hd q1 e1)
  case invokestatic idx =>
    rcases ho with ⟨hx9, ho⟩ | ⟨o1, ⟨o2, o3, o4⟩, o5⟩
    · exact am_builtin (Or.inr ⟨rfl, hx9⟩) hf hlo rfl rfl hCx ho hd q
    · obtain ⟨⟨q1, q2, q3, q4, q5⟩, q6⟩ := am_inv_lt o1 q
      intro ls H locs hl hS hv h1 h2
      exact am_do IH o2 hCx o3 o4 htab hd hl hS hv q2 q3 q4 q6 (am_goS hCx o5 o3 hd q1)
end Snd
/-- what the tables must say of an entry -/
def am_ok (NM : Nat → Prop) (k pc : Nat) (i : Instr) (len x y : Nat) : Prop := decode (pg_bytes k) pc = .ok (i, len) ∧
  ((am_pure i = true ∧ (am_ilen i = len ∨ am_ilen i = 0) ∧ am_ok1 k pc i x) ∨ (am_heap i = true ∧ am_ilen i = len ∧ am_ok2 k i x y) ∨ (am_ends i = true ∧ am_ilen i = len) ∨ (∃ idx, i = .new idx ∧ len = 3 ∧ 500 ≤ x ∧ 6 ≤ pg_lev k ∧ am_okT k pc x idx) ∨ (am_inv9 i = true ∧ len = 3 ∧ am_ok4 NM k i x y))
def am_all (NM : Nat → Prop) : Prop := am_clsall ∧ ∀ k, NM k → am_tabok k ∧ ∀ pc i len x y, pg_code k pc = some (i, len, x, y) → am_ok NM k pc i len x y
set_option maxHeartbeats 4000000 in
theorem am_body {NM : Nat → Prop} (hA : am_all NM) {d : Nat} (IH : am_So NM d) : am_So NM (d + 1) := by
  intro B D G k vs h K hk hM p l e s m below meth c hCx hSd
  obtain ⟨⟨hlen, hlev⟩, hW⟩ := hM
  obtain ⟨hcls, hall⟩ := hA
  obtain ⟨htab, hok⟩ := hall k hk
  have key : am_V B D k p l e (pg_rm (d + 1) k) s m vs.toArray below meth c (am_MQ B D K below s (pg_mc k) (pg_ms k)) 0 (am_ent k vs) [] h 0 0 := by
    refine hW _ ?_
    intro pc lv st h nc ns q
    unfold am_step at q
    split at q
    · rename_i i len x y hcode
      obtain ⟨hd, ho⟩ := hok pc i len x y hcode
      obtain ⟨⟨hx, hb, hml, hr, hown, hts, hlocks, hin0⟩, hB, hE, htr, hex⟩ := id hCx
      rcases ho with ⟨a1, a2, a3⟩ | ⟨a1, a2, a3⟩ | ⟨a1, a2⟩ | ⟨idx, rfl, rfl, a1, a2, a3⟩ | ⟨a1, rfl, a2⟩
      · exact am_sound1 hx hb hown hts a1 hd a2 a3 q
      · exact am_sound2 hcls hx hb hown hts hin0 hB hE.1.1 hE.1.2 hE.2.1 rfl rfl a1 hd a2 a3 q
      · exact am_sound3 hx hb hr hlocks a1 hd a2 q
      · intro ls H locs hl hS hv h1 h2
        simp only [am_ins, am_new] at q
        rw [if_neg (by omega)] at q
        obtain ⟨⟨q1, q2, q3⟩, q4⟩ := q
        exact am_throw (by simp only [pg_rm]; omega) (by simp only [pg_rm]; omega) rfl rfl hCx a3 hd hl hS hv q3 q1 q2 q4
      · cases i <;> first | (cases a1; done) | exact am_sound4 rfl IH htab hCx a2 hd q
    · exact q.elim
  rw [lg_entry_eq]
  exact key _ s.heap [] (am_entry hlen) hSd va_S.rf (Nat.zero_le _) (Nat.zero_le _)
theorem am_sound {NM : Nat → Prop} (hA : am_all NM) : ∀ d, am_So NM d
  | 0 => fun _ _ _ _ _ _ _ _ q => q.elim
  | d + 1 => am_body hA (am_sound hA d)
