-- calls: the callee's frame is walked by the same machine, one deep less
def pg_rm (d k : Nat) : Room := { frames := d + 2, cells := pg_mc k, slots := pg_ms k, locals := 28 * d + 146 }
/-- what the tables must say of a method that is called -/
def am_mth (x : Nat) : Prop :=
  ((pg_tab x = [] ∧ Cond.code (pg_name x) (pg_bytes x) (pg_max x) (pg_ret x) ∈ pg_ws) ∨ Cond.codeWith (pg_name x) (pg_bytes x) (pg_max x) (pg_ret x) ((pg_tab x).map fun q => (q.1, q.2.1, q.2.2.1, q.2.2.2.1)) ∈ pg_ws) ∧
  Jvm.plainName (pg_own x) = true ∧ (pg_own x ≠ "java/lang/invoke/MethodHandle" ∧ pg_own x ≠ "java/lang/invoke/VarHandle") ∧ pg_max x ≤ 9
/-- and of its own table of handlers -/
def am_tabok (k : Nat) : Prop := ∀ q ∈ pg_tab k, q.2.2.2.1 ≠ 0 ∧ Cond.classLink (pg_own k) q.2.2.2.1 (pg_exn q.2.2.2.2) ∈ pg_ws ∧ Cond.castable (pg_exn q.2.2.2.2) (pg_exn q.2.2.2.2) ∈ pg_nw ∧ ∀ r ∈ pg_tab k, q.2.2.2.2 ≠ r.2.2.2.2 → (pg_exn r.2.2.2.2, pg_exn q.2.2.2.2) ∈ pg_nc
theorem am_code {x : Nat} {s : State} {args : Array Value} (hm : am_mth x) (hw : ∀ w ∈ pg_ws, w.before args s = true) :
    ∃ mk meth c, s.methodNamed? (pg_name x) = some mk ∧ s.vm.method? mk = some meth ∧ meth.code = some c ∧ c.code = pg_bytes x ∧ c.maxLocals = pg_max x ∧ meth.sig.returnType = pg_ret x ∧ meth.locks = false ∧ am_exc x c ∧ parseMethodDescriptor (pg_name x).desc = some meth.sig := by
  rcases hm.1 with ⟨ht, h⟩ | h
  · obtain ⟨mk, hn⟩ := Cond.code_named (hw _ h)
    obtain ⟨meth, c, h1, h2, h3, h4, h5, h6, h7, h8⟩ := Cond.code_spec hn (hw _ h)
    refine ⟨mk, meth, c, hn, h1, h2, h3, h4, h5, h6, ?_, h8⟩
    unfold am_exc
    rw [ht]
    have : c.exceptionTable = #[] := by simpa using h7
    rw [this]
    rfl
  · obtain ⟨mk, meth, c, hn, h1, h2, h3, h4, h7, h5, h6, h8⟩ := Cond.codeWith_spec (hw _ h)
    exact ⟨mk, meth, c, hn, h1, h2, h3, h4, h5, h6, h7, h8⟩
def am_So (NM : Nat → Prop) (d : Nat) : Prop := ∀ (B : Nat) (D : va_G) (G : am_G) (k : Nat) (vs : List Value) (h : am_H) (K : am_K), NM k → am_M G d k vs h K →
  ∀ (p : Program) (l : Launch) (e : Env) (s : State) (m : MethodId) (below : List Frame) (meth : Method) (c : Code), am_Cx B G k p l s m vs.toArray meth c → am_Sd B D h s s.heap →
    W p l e (pg_rm d k) s m vs.toArray below meth c s.heap [] 0 0 (am_MQ B D K below s (pg_mc k) (pg_ms k)) (entryFrame m vs.toArray (pg_max k))
section Calls
variable {B : Nat} {D : va_G} {G : am_G} {k d : Nat} {p : Program} {l : Launch} {e : Env} {s : State} {m : MethodId} {args : Array Value} {below : List Frame} {meth : Method} {c : Code} {K : am_K} {NM : Nat → Prop}
variable {x y pc : Nat} {lv : am_L} {st rest vs : List Value} {h : am_H} {nc ns : Nat} {H : Heap} {locs : List Loc} {ls : Array Slot}
/-- behind a callee: nothing outside A has changed -/
theorem am_keep {st₀ t : State} {T' : State} {L : List Loc} (h0 : st₀.heap = H) (e1 : T'.heap = t.heap) (hS : va_S (am_A B) s.heap H locs) (hL : ∀ z ∈ L, am_A B z.base) (hF : va_F (am_A B) st₀ t) : va_S (am_A B) s.heap T'.heap (locs ++ L) := by
  obtain ⟨f1, f2⟩ := hF
  rw [h0] at f1 f2
  obtain ⟨s1, s2, s3⟩ := hS
  rw [e1]
  refine ⟨Nat.le_trans s1 f1, fun q hq ha => ?_, fun z hz => ?_⟩
  · rw [f2 q (Nat.lt_of_lt_of_le hq s1) ha]; exact s2 q hq ha
  · rcases List.mem_append.mp hz with q | q
    · exact s3 z q
    · exact hL z q
theorem am_tabs_nil (hex : am_exc k c) (ht : pg_tab k = []) : ∀ z ∈ c.exceptionTable.toList, covers z pc = false := by
  unfold am_exc at hex
  rw [ht] at hex
  have : c.exceptionTable.toList = [] := List.map_eq_nil_iff.mp hex
  rw [this]
  intro z hz
  cases hz
theorem am_split {x9 tgt : Nat} (hex : am_exc k c) (hh : pg_hnd k pc x9 = some tgt) : ∃ (pre suf : List ExceptionTableEntry) (z : ExceptionTableEntry) (q : Nat × Nat × Nat × Nat × Nat), q ∈ pg_tab k ∧ q.2.2.2.2 = x9 ∧ c.exceptionTable.toList = pre ++ z :: suf ∧ covers z pc = true ∧ z.catchType = q.2.2.2.1 ∧ z.handlerPc = tgt ∧
    ∀ y ∈ pre, covers y pc = false ∨ ∃ r ∈ pg_tab k, r.2.2.2.2 ≠ x9 ∧ y.catchType = r.2.2.2.1 := by
  unfold pg_hnd at hh
  rw [Option.map_eq_some_iff] at hh
  obtain ⟨q, hf, hq⟩ := hh
  rw [List.find?_eq_some_iff_append] at hf
  obtain ⟨hp, as, bs, hl, hno⟩ := hf
  unfold am_exc at hex
  rw [hl, List.map_append, List.map_cons, List.map_eq_append_iff] at hex
  obtain ⟨l1, l2, e1, e2, e3⟩ := hex
  rw [List.map_eq_cons_iff] at e3
  obtain ⟨z, suf, e4, e5, e6⟩ := e3
  simp only [Prod.mk.injEq] at e5
  obtain ⟨f1, f2, f3, f4⟩ := e5
  simp only [Bool.and_eq_true, Nat.ble_eq, Nat.blt_eq, Nat.beq_eq] at hp
  refine ⟨l1, suf, z, q, by rw [hl]; simp, hp.2, by rw [e1, e4], ?_, f4, by rw [f3]; exact hq, ?_⟩
  · unfold covers
    rw [f1, f2]
    simp [hp.1.1, hp.1.2]
  · intro y hy
    have hm : (y.startPc, y.endPc, y.handlerPc, y.catchType) ∈ as.map (fun q => (q.1, q.2.1, q.2.2.1, q.2.2.2.1)) := by
      rw [← e2]; exact List.mem_map.mpr ⟨y, hy, rfl⟩
    obtain ⟨r, hr, he⟩ := List.mem_map.mp hm
    simp only [Prod.mk.injEq] at he
    obtain ⟨g1, g2, g3, g4⟩ := he
    have hn := hno r hr
    by_cases hc : covers y pc = true
    · refine Or.inr ⟨r, by rw [hl]; exact List.mem_append_left _ hr, fun hx => ?_, g4.symm⟩
      unfold covers at hc
      rw [← g1, ← g2] at hc
      simp at hc
      have a1 : r.1.ble pc = true := by rw [Nat.ble_eq]; exact hc.1
      have a2 : pc.blt r.2.1 = true := by rw [Nat.blt_eq]; exact hc.2
      rw [a1, a2, hx] at hn
      simp at hn
    · exact Or.inl (by simpa using hc)
set_option maxHeartbeats 4000000 in
/-- a call, once the machine has come to it -/
theorem am_do {ig : Instr} (IH : am_So NM d) (hx9 : NM x) (hCx : am_Cx B G k p l s m args meth c) (hmth : am_mth x) (hI : pg_isI x = true → (pg_name x).name = "<init>") (htab : am_tabok k) (hd : decode (pg_bytes k) pc = .ok (ig, 3)) (hl : am_lv ls (pg_max k) lv) (hS : am_Sd B D h s H) (hv : va_S (am_A B) s.heap H locs)
    (hrest : am_words rest ≤ 8) (hc : nc + pg_mc x ≤ pg_mc k) (hs : ns + pg_ms x ≤ pg_ms k)
    (hM : am_M G d x vs h (am_back k K (am_V B D k p l e (pg_rm (d + 1) k) s m args below meth c (am_MQ B D K below s (pg_mc k) (pg_ms k))) x pc lv rest nc ns))
    (hgo : ∀ T : State, T.heap = H → Stand p l e (pg_rm (d + 1) k) s m args below meth c T locs nc ns → ∃ (vm₁ : Vm) (mk : MethodId), s.methodNamed? (pg_name x) = some mk ∧ Stand p l e (pg_rm (d + 1) k) s m args below meth c (T.setVm vm₁) locs nc ns ∧
      ∀ target, (∀ acts, Steps p.tables e below (doInvoke e ((T.setVm vm₁).setTop (F0 m pc ls rest)) acts mk vs.toArray).1 target) → Steps p.tables e below (T.setTop (F0 m pc ls st)) target) :
    W p l e (pg_rm (d + 1) k) s m args below meth c H locs nc ns (am_MQ B D K below s (pg_mc k) (pg_ms k)) (F0 m pc ls st) := by
  intro T hT X
  obtain ⟨vm₁, mk, hn, X₁, hst⟩ := hgo T hT X
  obtain ⟨⟨hx, hb, hml, hr, hown, hts, hlocks, hin0⟩, hB, hE, htr, hex⟩ := hCx
  obtain ⟨mk', methk, ck, hn', hmk, hck, hbk, hmlk, hrk, hlk, hek, hsig⟩ := am_code hmth hts
  cases hn.symm.trans hn'
  obtain ⟨-, hpl, hnh, hmx⟩ := hmth
  generalize hT1 : T.setVm vm₁ = T1 at X₁ hst
  have hT1h : T1.heap = H := by rw [← hT1]; exact hT
  have hmk1 : T1.vm.method? mk = some methk := by rw [X₁.warmed.alike.method?]; exact hmk
  have hnm := className_of_methodNamed hn
  have hpk : T1.plainMethod mk := State.WarmedH.plainAt X₁.warmed (fun k9 hk9 => by
    obtain ⟨kY, hkY, hnY⟩ := hnm
    cases hk9.symm.trans hkY
    rw [hnY]; exact hpl)
  have hdc : decode c.code (F0 m pc ls rest).pc = .ok (ig, 3) := by rw [hb]; exact hd
  have hsz : (F0 m pc ls rest).locals.size = c.maxLocals := hl.1.trans hml.symm
  have hmr : (F0 m pc ls rest).monitorRoom = 0 := rfl
  obtain ⟨Y, hin⟩ := X₁.into (g := F0 m pc ls rest) rfl hsz hdc vs.toArray (R' := pg_rm d x) hmk1 hck hlk hpk (by simp only [pg_rm]; omega)
    (by rw [hmr, hmlk]; unfold am_words at hrest; simp only [pg_rm]; omega) (by simp only [pg_rm]; exact hc) (by simp only [pg_rm]; exact hs)
  rw [hmlk] at Y hin
  have hch : (T1.calling (F0 m pc ls rest) mk vs.toArray).heap = H := hT1h
  have hWm : s.WarmedH (T1.calling (F0 m pc ls rest) mk vs.toArray).vm := X₁.warmed
  have hCx' : am_Cx B G x p l (T1.calling (F0 m pc ls rest) mk vs.toArray) mk vs.toArray methk ck := by
    refine ⟨⟨hx, hbk, hmlk, hrk, ?_, ?_, hlk, ?_⟩, ?_, ?_, htr, hek⟩
    · rw [hWm.alike.findClass]; exact findClass_of_methodNamed hn
    · exact fun w hw => word_at hWm (good_of_word (List.mem_filter.mp hw).2) (hts w hw)
    · intro hi
      rw [(name_of_methodNamed hn hmk).1]; exact hI hi
    · rw [hch]; exact Nat.le_trans hB hv.1
    · exact am_Ex.to hWm (fun a ha => by rw [hch]; exact hv.2.1 a (Nat.lt_of_lt_of_le ha hB) (Nat.not_le.mpr ha)) hE
  have hSd' : am_Sd B D h (T1.calling (F0 m pc ls rest) mk vs.toArray) (T1.calling (F0 m pc ls rest) mk vs.toArray).heap := by rw [hch]; exact hS.moved hWm.alike
  obtain ⟨t, st9, o, hrun, hend, hW9, ⟨L, hsame, hL⟩, r, h', hK', hSd2, hF, hoc⟩ := IH B D G x vs h _ hx9 hM p l e _ mk (.java (F0 m pc ls rest) :: below) methk ck hCx' hSd' ((T1.setTop (F0 m pc ls rest)).pushFrame (.java (entryFrame mk vs.toArray (pg_max x)))) rfl Y
  have hst9 : ∀ acts, Steps p.tables e below (doInvoke e (T1.setTop (F0 m pc ls rest)) acts mk vs.toArray).1 t := fun acts => by
    rw [hin acts]
    exact Steps.weaken (mid := [.java (F0 m pc ls rest)]) st9
  cases r with
  | inl v =>
    have hoc : o = .returned v := hoc
    subst hoc
    obtain ⟨T', X', hW', hsm, ht⟩ := X₁.outOf rfl hdc hend hW9 hsame
    have eh : T'.heap = t.heap := by rw [ht]; rfl
    have ev : T'.vm = t.vm := by rw [ht]; rfl
    have hsd3 : am_Sd B D h' s T'.heap := by
      rw [eh]
      exact hSd2.moved (by rw [← ev]; exact X'.warmed.alike.symm)
    obtain ⟨t2, a1, b1⟩ := hK' ls T'.heap (locs ++ L) hl hsd3 (am_keep hch eh hv hL hF) hc hs T' rfl X'
    refine ⟨t2, hst t2 (fun acts => (hst9 acts).trans ?_), b1⟩
    rw [ht]
    exact a1
  | inr x9 =>
    obtain ⟨q, ce, rfl, hce, hcv, hcl⟩ := hoc
    obtain ⟨T', X', hW', hsm, ht⟩ := X₁.outOfThrown rfl hend hW9 hsame
    have eh : T'.heap = t.heap := by rw [ht]; rfl
    have ev : T'.vm = t.vm := by rw [ht]; rfl
    have hsd3 : am_Sd B D h' s T'.heap := by
      rw [eh]
      exact hSd2.moved (by rw [← ev]; exact X'.warmed.alike.symm)
    have hS3 := am_keep hch eh hv hL hF
    have hcl0 : s.vm.findClass (pg_exn x9) = some ce.cls := by rw [← hWm.alike.findClass]; exact hcl
    have hK2 : am_back k K (am_V B D k p l e (pg_rm (d + 1) k) s m args below meth c (am_MQ B D K below s (pg_mc k) (pg_ms k))) x pc lv rest nc ns (.inr x9) h' := hK'
    unfold am_back at hK2
    dsimp only at hK2
    cases hh : pg_hnd k pc x9 with
    | none =>
      rw [hh] at hK2
      obtain ⟨ht0, hk9⟩ := hK2
      obtain ⟨st1, hrun1, hend1, hW1, hsm1⟩ := X'.leaveThrown q (g := F0 m pc ls rest) rfl rfl rfl (am_tabs_nil hex ht0) hlocks
      refine ⟨_, hst _ (fun acts => (hst9 acts).trans ?_), .threw q, hrun1, hend1, hW1, ⟨locs ++ L, hsm1.mono hc hs, hS3.2.2⟩, .inr x9, h', hk9, ?_, hS3.F rfl, q, ce, rfl, ?_, hcv, hcl0⟩
      · rw [ht]; exact st1
      · exact hsd3.moved hW1.alike
      · show T'.heap[q]? = some ce
        rw [eh]; exact hce
    | some tgt =>
      rw [hh] at hK2
      dsimp only at hK2
      obtain ⟨pre, suf, z, qz, hqm, hqx, hsp, hcov, hzc, hzh, hpass⟩ := am_split hex hh
      obtain ⟨t1, t2, t3, t4⟩ := htab qz hqm
      have hpl9 : e.platform.magicAccessors = ({} : Platform).magicAccessors := by rw [X'.admits.platform]
      have hcast : (Cond.castable (pg_exn qz.2.2.2.2) (pg_exn qz.2.2.2.2)).before #[] s = true := hE.2.2.1 _ t3
      obtain ⟨c3, c4, hc3, hc4, hasg⟩ := Cond.castable_spec hcast
      rw [hqx] at hc3 hc4 t2
      cases hc3.symm.trans hcl0
      cases hc4.symm.trans hcl0
      obtain ⟨c5, hc5, hcl5⟩ := Cond.classLink_spec hown (hts _ t2) e.platform hpl9
      cases hc5.symm.trans hcl0
      have hk0 : ∃ k9, s.vm.classes[ce.cls]? = some k9 := by
        obtain ⟨k9, h9, -⟩ := Vm.findClass_spec hcl0
        exact ⟨k9, h9⟩
      obtain ⟨vm', X2, st2⟩ := X'.caughtThrough q (g := F0 m pc ls rest) rfl (cell := ce) (by rw [eh]; exact hce) (by rw [hcv]; rfl) hk0 pre z suf hsp
        (fun y hy => by
          rcases hpass y hy with h9 | ⟨r, hr, hrx, hyc⟩
          · exact Or.inl h9
          · obtain ⟨r1, r2, -, -⟩ := htab r hr
            obtain ⟨c6, hc6, hcl6⟩ := Cond.classLink_spec hown (hts _ r2) e.platform hpl9
            have hnc : va_Nc (pg_exn qz.2.2.2.2) (pg_exn r.2.2.2.2) s := hE.2.2.2.1 (pg_exn qz.2.2.2.2, pg_exn r.2.2.2.2) ((htab r hr).2.2.2 qz hqm (by rw [hqx]; exact hrx))
            rw [hqx] at hnc
            obtain ⟨a8, b8, n1', n2', n3⟩ := hnc
            have e8 : a8 = ce.cls := Option.some.inj (n1'.symm.trans hcl0)
            have e9 : b8 = c6 := Option.some.inj (n2'.symm.trans hc6)
            rw [e8, e9] at n3
            exact Or.inr ⟨by rw [hyc]; exact r1, c6, by rw [hyc]; exact hcl6, n3⟩)
        hcov (Or.inr ⟨by rw [hzc]; exact t1, _, by rw [hzc]; exact hcl5, hasg⟩)
      obtain ⟨t5, a1, b1⟩ := hK2 q ls T'.heap (locs ++ L) hl hsd3 hS3 hc hs (T'.setVm vm') rfl X2
      refine ⟨t5, hst t5 (fun acts => (hst9 acts).trans ?_), b1⟩
      rw [ht, X'.pushThrowing_eq]
      exact st2 t5 (by rw [hzh]; exact a1)
end Calls
