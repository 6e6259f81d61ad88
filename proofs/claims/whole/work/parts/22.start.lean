-- THE CLAIM OUT OF THE ABSTRACT MACHINE
def R_law : String := "SheetNeedsLaw"
def lw_P (b : Addr) (xs : List Int32) (args : Array Value) (s : State) : Prop := args = #[.ref b] ∧ s.IntsAt b xs ∧ xs.length ≤ 3072 ∧ (Jvm.Cond.and given_1 narrow_1).before args s = true
def lw_Q (_ : Array Value) (s : State) (o : Outcome) (t : State) : Prop := o = .returned (some (.int 1)) ∧ Framed s o t [] 601024 7293034
def lw_Z (below : List Frame) (a : Array Value) (s : State) : State → Prop := fun t => ∃ o, t.status = .running ∧ Ended t below o ∧ lw_Q a s o t
def lw_At (p : Program) (s : State) (m : MethodId) (meth : Method) (c : Code) (b L : Nat) (xs : Nat → Int32) : Prop :=
  p.tables.exec = Jvm.exec ∧ c.code = code ∧ meth.sig.returnType = ret ∧ c.maxLocals = 8 ∧ s.vm.findClass R_law = some m.cls ∧ (∀ w ∈ lw_tbl, w.before #[Value.ref b] s = true) ∧ va_X b L xs s s.heap ∧ b < s.heap.size ∧ meth.locks = false ∧ (Jvm.Cond.and given_1 narrow_1).before #[Value.ref b] s = true
theorem am_D {s : State} {args : Array Value} (hcls : am_clsall) (hts : ∀ w ∈ pg_ws, w.before args s = true) : ∃ D : va_G, va_K D pg_classes [] s := by
  have h : ∀ ci : Nat, ∃ (cC : ClassId) (iS : Nat → Nat), ∀ q : vw_C, pg_classes[ci]? = some q → u_Kn s q.1 q.2.1 q.2.2 cC iS := by
    intro ci
    cases hq : pg_classes[ci]? with
    | none => exact ⟨0, fun _ => 0, fun q h => by cases h⟩
    | some q =>
      obtain ⟨c1, -, -, -, -, c6, -⟩ := hcls ci q hq
      obtain ⟨cC, iS, hK⟩ := u_known (C := q.1) (T := q.2.1) (N := q.2.2) (n := q.2.2) hts c1 (hts _ c6)
      exact ⟨cC, iS, fun q' h' => by cases h'; exact hK⟩
  exact ⟨(fun ci => Classical.choose (h ci), fun ci => Classical.choose (Classical.choose_spec (h ci))), fun ci q hq => Classical.choose_spec (Classical.choose_spec (h ci)) q hq, fun k q hk => by simp at hk⟩
theorem am_Zof {B : Nat} {b : Bool} {s : State} {args : Array Value} (hl : (Cond.laysStatic "java/lang/Throwable" (am_zd b).1 (am_zd b).2).before args s = true) (hr : (Cond.isRef (.static "java/lang/Throwable" (am_zd b).1 (am_zd b).2)).before args s = true) (hB : s.heap.size = B) : am_Z B b s s.heap := by
  obtain ⟨c, k, i, f, a, cell, h1, h2, h3, h4, h5, h6, h7, h8, h9⟩ := Cond.laysStatic_spec hl
  have hlt : a < s.heap.size := (Array.getElem?_eq_some_iff.mp h5).1
  have hv : cell.slots[f.slot]? = some cell.slots[f.slot] := Array.getElem?_eq_getElem h8
  refine ⟨c, k, i, f, a, cell, cell.slots[f.slot], h1, h2, h3, h4, h5, h6, h7, h8, h9, hv, ?_, by rw [← hB]; exact hlt⟩
  have he : (Term.static "java/lang/Throwable" (am_zd b).1 (am_zd b).2).eval args s none [] s = some cell.slots[f.slot] := by
    simp [Term.eval, State.fieldNamed?, h2, h3, h4, h5, h6, h8]
  simp only [Cond.before, Cond.holds, Cond.value, he] at hr
  cases hc : cell.slots[f.slot] <;> simp_all [Value.isRef]
theorem am_nw_of {w : Cond} (hw : w ∈ pg_nw) {s : State} {args : Array Value} (h : w.before args s = true) : va_Nw w s := by
  refine va_Nw.of ?_ h
  have hm := (List.mem_filter.mp hw).2
  cases w <;> simp only [] at hm <;> first | (cases hm; done) | rfl
theorem am_over_in : ∀ C ∈ pg_over, Cond.arrayOver (.object C) ∈ lw_tbl := by decide +kernel
theorem am_str_own : ∀ q ∈ pg_strs, q.1 = "SheetNeeds" := by decide +kernel
theorem am_str_in {q : String × Nat × String} (h : q ∈ pg_strs) : Cond.stringRef q.1 q.2.1 q.2.2 ∈ lw_tbl := by
  obtain ⟨w, hw, he⟩ := List.mem_filterMap.mp h
  cases w <;> simp only [] at he <;> first | (cases he; done) | skip
  cases he
  exact hw
theorem am_nc_in : ∀ q ∈ pg_nc, Cond.not (.castable q.1 q.2) ∈ flatC (Jvm.Cond.and given_1 narrow_1) := by decide +kernel
theorem am_zr_in : ∀ b : Bool, Cond.isRef (.static "java/lang/Throwable" (am_zd b).1 (am_zd b).2) ∈ flatC (Jvm.Cond.and given_1 narrow_1) := by decide +kernel
theorem am_zl_in : ∀ b : Bool, Cond.laysStatic "java/lang/Throwable" (am_zd b).1 (am_zd b).2 ∈ lw_tbl := by decide +kernel
theorem am_inst_in : Cond.instantiable "SheetNeeds" 8 ∈ lw_tbl := by decide +kernel
def am_KL : am_K := fun r _ => r = .inl (some (.int 1))
set_option maxHeartbeats 4000000 in
theorem whole_start {p : Program} {e : Env} {s : State} {m : MethodId} {below : List Frame} {meth : Method} {c : Code} (l : Launch) (htr : l.stackTraces = false) {b L : Nat} {xs : Nat → Int32} (C0 : lw_At p s m meth c b L xs) (hxt : c.exceptionTable.isEmpty = true) (hM : am_M (b, L, xs) 9 129 [.ref b] (fun _ => none) am_KL) :
    W p l e room_1 s m #[Value.ref b] below meth c s.heap [] 0 0 (lw_Z below #[Value.ref b] s) (entryFrame m ([Value.ref b] : List Value).toArray 8) := by
  obtain ⟨hx, hb, hr, hml, hown, hts, hX, hbl, hlocks, hgv⟩ := C0
  have hw : ∀ w ∈ pg_ws, w.before #[Value.ref b] s = true := fun w h => hts w (List.mem_filter.mp h).1
  have hs := flat_of_before _ hgv
  obtain ⟨D, hK⟩ := am_D am_clsall_ok hw
  have hE : am_Ex s.heap.size (b, L, xs) s s.heap := by
    refine ⟨⟨hX, hbl⟩, fun C hC => va_AO.of (hts _ (am_over_in C hC)), fun w hw9 => am_nw_of hw9 (hts w (List.mem_filter.mp hw9).1), fun q hq => va_Nc.of (hs _ (am_nc_in q hq)), fun q hq => ?_, fun z => am_Zof (hts _ (am_zl_in z)) (hs _ (am_zr_in z)) rfl⟩
    obtain ⟨cS, kS, hcS, -⟩ := Cond.instantiable_spec (hts _ am_inst_in)
    have hq1 := am_str_own q hq
    obtain ⟨_, _, _, a, -, -, -, -, -, he⟩ := Cond.stringRef_spec (by rw [hq1]; exact hcS) (hts _ (am_str_in hq))
    exact ⟨a, vk_R.of (hts _ (am_str_in hq)) he⟩
  have hex : am_exc 129 c := by
    unfold am_exc
    have h9 : c.exceptionTable = #[] := by simpa using hxt
    rw [h9]
    rfl
  have hCx : am_Cx s.heap.size (b, L, xs) 129 p l s m ([Value.ref b] : List Value).toArray meth c := ⟨⟨hx, hb, hml, hr, hown, hw, hlocks, fun h => by cases h⟩, Nat.le_refl _, hE, htr, hex⟩
  have hSd : am_Sd s.heap.size D (fun _ => none) s s.heap := ⟨[], [], fun a e9 h => (by cases h), fun k q h => (by simp at h), ⟨fun i j p q h => (by simp at h), fun k q h => (by simp at h)⟩, hK⟩
  have K := am_sound am_all_ok 9 s.heap.size D (b, L, xs) 129 [.ref b] (fun _ => none) am_KL (by unfold am_NM; decide) hM p l e s m below meth c hCx hSd
  refine am_wq ?_ K
  rintro t ⟨o, h1, h2, h3, ⟨L9, h4, h5⟩, r, h, h6, -, -, h7⟩
  have h6 : r = .inl (some (.int 1)) := h6
  subst h6
  have h7 : o = .returned (some (.int 1)) := h7
  refine ⟨o, h1, h2, h7, ⟨_, h7⟩, h3, ?_⟩
  exact h4.weaken (fun y hy hlt => absurd hlt (Nat.not_lt.mpr (h5 y hy))) (Nat.le_refl _) (Nat.le_refl _)
/-- what is left: the law, as the abstract machine has it, answers true -/
def am_goal : Prop := ∀ (b L : Nat) (xs : Nat → Int32), L ≤ 3072 → am_M (b, L, xs) 9 129 [.ref b] (fun _ => none) am_KL
set_option maxHeartbeats 4000000 in
theorem lw_walk (l : Launch) (htr : l.stackTraces = false) (hgoal : am_goal) (b : Addr) (xs : List Int32) : MetFree l x (headSpec (Jvm.Cond.code x code maxLocals ret :: tables_1) room_1) (lw_P b xs) (fun _ _ _ _ _ => True) lw_Q := by
  refine MetFree.of_bodyS (code := code) (maxLocals := maxLocals) (ret := ret) (by decide) ?_ ?_
  · intro args s m h hn
    obtain ⟨meth, c, h1, h2, h3, h4, h5, h6, -, -⟩ := Cond.code_spec hn (atoms_spec (ws := Jvm.Cond.code x code maxLocals ret :: tables_1) h _ List.mem_cons_self)
    exact ⟨meth, c, h1, h2, h3, h4, h5, h6⟩
  · intro p e s m args below meth c s₁ B hml0 hP _
    obtain ⟨rfl, hx, hbd, hgv⟩ := hP
    obtain ⟨scr, harrAt, hlist, hof, hsmall⟩ := hx
    obtain ⟨hcb, hkn, -, -⟩ := State.arrayAt?_spec harrAt
    have hown : s.vm.findClass R_law = some m.cls := findClass_of_methodNamed B.named
    have hts0 : ∀ c ∈ (Jvm.Cond.code x code maxLocals ret :: tables_1), c.before #[Value.ref b] s = true := atoms_spec (ws := Jvm.Cond.code x code maxLocals ret :: tables_1) B.pre
    have hts : ∀ w ∈ lw_tbl, w.before #[Value.ref b] s = true := k2_hts_sels lw_privs (fun w hw => hts0 w (List.mem_cons_of_mem _ hw)) lw_privs_ok
    have hml : c.maxLocals = 8 := B.maxLocals_eq (hts0 _ List.mem_cons_self)
    have X₀ : Stand p l e room_1 s m #[Value.ref b] below meth c s₁ [] 0 0 := Stand.of_body B
    have hh0 : s₁.heap = s.heap := by rw [B.state]; rfl
    have hsz : scr.slots.size = xs.length := by rw [← Array.length_toList, hlist, List.length_map]
    have hval : ∀ j : Nat, j < xs.length → scr.slots[j]? = some (.int (xs.getD j 0)) := fun j hj => by
      rw [← Array.getElem?_toList, hlist]
      simp [hj]
    have hbl : b < s.heap.size := (Array.getElem?_eq_some_iff.mp hcb).1
    have hX : va_X b xs.length (fun j => xs.getD j 0) s s.heap := ⟨scr, hcb, hof, hkn, hsz, hval⟩
    have K : W p l e room_1 s m #[Value.ref b] below meth c s₁.heap [] 0 0 (lw_Z below #[Value.ref b] s) (entryFrame m ([Value.ref b] : List Value).toArray 8) := by
      rw [hh0]
      exact whole_start l htr ⟨B.exec, B.bytes, B.returns, hml, hown, hts, hX, hbl, B.notSynchronized, hgv⟩ (B.noHandlers (hts0 _ List.mem_cons_self)) (hgoal b xs.length _ hbd)
    obtain ⟨t, a1, o, b1, b2, b3⟩ := K s₁ rfl X₀
    exact ⟨t, o, a1, b1, b2, b3⟩
theorem lw_pre_spec {args : Array Value} {s : State} (h : (Jvm.Cond.and given_1 narrow_1).before args s = true) (hr : rest_1_c.before args s = true) : ∃ (b : Addr) (xs : List Int32), lw_P b xs args s := by
  have hs := flat_of_before _ h
  have hq := flat_of_before _ hr
  have hc : (Cond.count 1).before args s = true := hs _ (by decide +kernel)
  have harr : (Cond.arrayOf (.arg 0) .int).before args s = true := hs _ (by decide +kernel)
  have hle : (Cond.le (.length (.arg 0)) (.int 3072)).before args s = true := hs _ (by decide +kernel)
  have hlen : (Cond.isInt (.length (.arg 0))).before args s = true := hq _ (by decide +kernel)
  have hall : (Cond.all (.arg 0) (.isInt (.elem (.arg 0) (.index 0)))).before args s = true := hq _ (by decide +kernel)
  obtain ⟨b, xs, hb, hx⟩ := State.ints_of_pre rfl harr hlen hall
  have hsm : xs.length < 2 ^ 31 := hx.choose_spec.2.2.2
  have hev : (Term.length (.arg 0)).eval args s none [] s = some (.int xs.length.toInt32) := hx.length_eval hb
  have hv := Cond.le_ints hev (show (Term.int 3072).eval args s none [] s = some (.int 3072) from rfl)
  have hd : xs.length.toInt32 ≤ 3072 := by
    simpa [Cond.before, Cond.holds, hv] using hle
  have hN : xs.length ≤ 3072 := (Int32.ofNat_le_ofNat hsm (by decide)).mp (show Int32.ofNat xs.length ≤ Int32.ofNat 3072 from hd)
  exact ⟨b, xs, Cond.one_arg hc (show args[0]? = some (.ref b) from hb), hx, hN, h⟩
theorem lw_comes (l : Launch) (htr : l.stackTraces = false) (hgoal : am_goal) : Comes l x (Jvm.Cond.code x code maxLocals ret :: tables_1) room_1 (fun tb e args s => Calls_1 tb e args s ∧ rest_1 tb e args s ∧ Pre_1 tb e args s)
    (fun _ _ args s o t => lw_Q args s o t) := by
  intro p e ha hc hk s m args below hf hfit hheap happ hpre
  obtain ⟨b, xs, hP⟩ := lw_pre_spec hpre.2.2 hpre.2.1
  obtain ⟨k, o, h1, h2, h3, hQ⟩ := lw_walk l htr hgoal b xs p e ha hc hk s m args below hf ((Spec.applies_iff_loose hf).mp happ).1 hP trivial
  exact ⟨k, o, h1, h2, h3, hQ⟩
theorem lw_frame {s t : State} {o : Outcome} {args : Array Value} (h : Framed s o t [] 601024 7293034) :
    Framed s o t (fieldLocs frame_1_writes args s ++ arrayLocs frame_1_arrays args s ++ staticLocs frame_1_statics s) 601024 7293034 := h
theorem lw_limb (hgoal : am_goal) (L : Cond) (hL : ∀ (args : Array Value) (s t : State), L.after args s (.returned (some (.int 1))) t = true) :
    ArmFor flags0 classFile x code maxLocals ret World_1 tables_1 room_1 Calls_1 rest_1 Pre_1
      (fun tb e a s o t => postC L tb e a s o t ∧ Framed s o t (fieldLocs frame_1_writes a s ++ arrayLocs frame_1_arrays a s ++ staticLocs frame_1_statics s) 601024 7293034) := by
  intro l hfl _ _ p e ha hc hk s m args below hf hfit hheap happ hpre
  have htr : l.stackTraces = false := by unfold Launch.stackTraces; rw [hfl]; decide +kernel
  obtain ⟨k, o, h1, h2, h3, rfl, hF⟩ := lw_comes l htr hgoal p e ha hc hk s m args below hf hfit hheap happ hpre
  exact ⟨k, _, h1, h2, h3, hL args s _, lw_frame hF⟩
theorem i_vc_of (hgoal : am_goal) : Claimed_1_1 ∧ Claimed_1_2 := ⟨lw_limb hgoal limb_1_1 (fun args s t => by simp [limb_1_1, Cond.after, Cond.holds, Cond.value]), lw_limb hgoal limb_1_2 (fun args s t => Cond.after_iff.mpr (by
  first | (rw [show limb_1_2 = Cond.eq .result (.int 1) from rfl, Cond.eq_ints (x := 1) (y := 1) rfl rfl]; simp; done) | (simp [limb_1_2, Cond.value, Term.eval]; done)))⟩
