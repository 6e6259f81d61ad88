-- the three kinds of call, and the library's own methods
def am_npar (x n : Nat) : Prop := (parseMethodDescriptor (pg_name x).desc).map (fun z => z.parameters.length) = some n
def am_okV (k idx x y : Nat) : Prop := Cond.methodLink (pg_own k) idx (pg_name x) ∈ pg_ws ∧ Cond.instanceMethod (pg_name x) ∈ pg_ws ∧ Cond.selects (pg_own x) (pg_name x) (pg_name x) ∈ pg_ws ∧ am_npar x (y - 1) ∧ 1 ≤ y ∧ pg_stat x = false ∧ ∃ q : vw_C, pg_classes[pg_cls x]? = some q ∧ q.1 = pg_own x
def am_okS (k idx x y : Nat) : Prop := Cond.methodLink (pg_own k) idx (pg_name x) ∈ pg_ws ∧ Cond.static (pg_name x) ∈ pg_ws ∧ Cond.initialized (pg_own x) ∈ pg_ws ∧ am_npar x y
def am_okI (k idx x y : Nat) : Prop := (Cond.methodLink (pg_own k) idx (pg_name x) ∈ pg_ws ∨ ∃ host, Cond.methodLinkNest (pg_own k) idx (pg_name x) host ∈ pg_nw) ∧ Cond.instanceMethod (pg_name x) ∈ pg_ws ∧ Cond.code (pg_name x) (pg_bytes x) (pg_max x) none ∈ pg_ws ∧ (pg_name x).name = "<init>" ∧ am_npar x (y - 1) ∧ 1 ≤ y ∧ pg_stat x = false
def am_okM (NM : Nat → Prop) (x : Nat) : Prop := NM x ∧ am_mth x ∧ (pg_isI x = true → (pg_name x).name = "<init>")
def am_okB (k idx x : Nat) : Prop := match x with
  | 900 => Cond.methodLink (pg_own k) idx objectInit ∈ pg_ws ∧ Cond.instanceMethod objectInit ∈ pg_ws ∧ Cond.code objectInit ⟨#[0xb1]⟩ 1 none ∈ pg_ws
  | 901 => Cond.methodLink (pg_own k) idx arraycopyName ∈ pg_ws ∧ Cond.native arraycopyName ∈ pg_ws ∧ Cond.static arraycopyName ∈ pg_ws ∧ Cond.initialized "java/lang/System" ∈ pg_ws
  | 902 => Cond.methodLink (pg_own k) idx Lib.Math.max.name ∈ pg_ws ∧ Cond.static Lib.Math.max.name ∈ pg_ws ∧ Cond.initialized "java/lang/Math" ∈ pg_ws ∧ Cond.code Lib.Math.max.name Lib.Math.max.code 2 (some .int) ∈ pg_ws
  | 903 => Cond.methodLink (pg_own k) idx Lib.Math.min.name ∈ pg_ws ∧ Cond.static Lib.Math.min.name ∈ pg_ws ∧ Cond.initialized "java/lang/Math" ∈ pg_ws ∧ Cond.code Lib.Math.min.name Lib.Math.min.code 2 (some .int) ∈ pg_ws
  | 904 => Cond.methodLink (pg_own k) idx Lib.MathLoose.max_long.x ∈ pg_ws ∧ Cond.static Lib.MathLoose.max_long.x ∈ pg_ws ∧ Cond.initialized "java/lang/Math" ∈ pg_ws ∧ Cond.code Lib.MathLoose.max_long.x Lib.MathLoose.max_long.code 4 (some .long) ∈ pg_ws
  | _ => False
section Inv
variable {B : Nat} {D : va_G} {G : am_G} {k d : Nat} {p : Program} {l : Launch} {e : Env} {s : State} {m : MethodId} {args : Array Value} {below : List Frame} {meth : Method} {c : Code} {K : am_K} {NM : Nat → Prop}
variable {x y pc idx : Nat} {lv : am_L} {st rest vs : List Value} {h : am_H} {nc ns : Nat} {H : Heap} {locs : List Loc} {ls : Array Slot} {R : Room}
theorem am_npar.of {n : Nat} (h : am_npar x n) : ∀ sig, parseMethodDescriptor (pg_name x).desc = some sig → n = sig.parameters.length := by
  intro sig hs
  unfold am_npar at h
  rw [hs] at h
  exact (Option.some.inj h).symm
theorem am_goV (hCx : am_Cx B G k p l s m args meth c) (ho : am_okV k idx x y) (hmth : am_mth x) (hd : decode (pg_bytes k) pc = .ok (.invokevirtual idx, 3)) (hS : am_Sd B D h s H) (hy : y ≤ st.length) {a : Nat} {r : List Value} (hvs : (st.take y).reverse = .ref a :: r) {fs : List Value} (ha : h a = some (.inr (pg_cls x, fs))) :
    ∀ T : State, T.heap = H → Stand p l e R s m args below meth c T locs nc ns → ∃ (vm₁ : Vm) (mk : MethodId), s.methodNamed? (pg_name x) = some mk ∧ Stand p l e R s m args below meth c (T.setVm vm₁) locs nc ns ∧
      ∀ target, (∀ acts, Steps p.tables e below (doInvoke e ((T.setVm vm₁).setTop (F0 m pc ls (st.drop y))) acts mk (st.take y).reverse.toArray).1 target) → Steps p.tables e below (T.setTop (F0 m pc ls st)) target := by
  intro T hT X
  obtain ⟨⟨hx, hb, hml, hr, hown, hts, hlocks, hin0⟩, hB, hE, htr, hex⟩ := hCx
  obtain ⟨o1, o2, o3, o4, o5, o6, ⟨C9, T9, N9⟩, o7, o8⟩ := ho
  dsimp only at o8
  subst o8
  obtain ⟨ws, tys, hR, hP, hD, hK⟩ := hS
  obtain ⟨q0, hq0⟩ := hR a _ ha
  obtain ⟨cellB, hcB, hoB, hclB⟩ := va_recv hK hP o7 hq0
  obtain ⟨mk, methM, hnamed, hmethM, hstM, habM⟩ := Cond.instanceMethod_spec (hts _ o2)
  obtain ⟨mk', methM', cM, hn', hmk', -, -, -, -, -, -, hsigM⟩ := am_code hmth hts
  cases hnamed.symm.trans hn'
  cases hmethM.symm.trans hmk'
  obtain ⟨c2, r2, m2, q1, q2, q3, q4, kP, hkP, hkPi⟩ := Cond.selects_spec (hts _ o3)
  cases hclB.symm.trans q1
  have hnh : (pg_name x).cls ≠ "java/lang/invoke/MethodHandle" ∧ (pg_name x).cls ≠ "java/lang/invoke/VarHandle" := hmth.2.2.1
  cases (State.methodFound?_of_named hnamed hnh).symm.trans q2
  cases hnamed.symm.trans q3
  have hselP : selectMethod e.platform s.vm cellB.cls mk = .method mk := by rw [Launch.admits_selectMethod X.admits]; exact q4
  have hlen : r.length = methM.sig.parameters.length := by
    have h1 := am_npar.of o4 _ hsigM
    have h2 : ((st.take y).reverse).length = y := by rw [List.length_reverse, List.length_take]; omega
    rw [hvs, List.length_cons] at h2
    omega
  have hstack : (F0 m pc ls st).stack = r.reverse ++ .ref a :: st.drop y := by
    have h1 : st.take y = r.reverse ++ [.ref a] := by
      have := congrArg List.reverse hvs
      rw [List.reverse_reverse, List.reverse_cons] at this
      exact this
    show st = _
    conv => lhs; rw [← List.take_append_drop y st]
    rw [h1, List.append_assoc]
    rfl
  obtain ⟨vm₁, X₁, hstep⟩ := X.invokevirtual hx hown (hts _ o1) hnamed hmethM hstM hkP hkPi hnh (a := a) (cell := cellB) (by rw [hT]; exact hcB)
    (fun z h9 => by rw [h9] at hoB; cases hoB) hselP hmethM habM hkP hkPi (g := F0 m pc ls st) rfl (argsL := r) (rest := st.drop y) hlen hstack (by rw [hb]; exact hd)
  refine ⟨vm₁, mk, hnamed, X₁, fun target ht => hstep target (fun acts => ?_)⟩
  have := ht acts
  rw [hvs] at this
  exact this
theorem am_goS (hCx : am_Cx B G k p l s m args meth c) (ho : am_okS k idx x y) (hmth : am_mth x) (hd : decode (pg_bytes k) pc = .ok (.invokestatic idx, 3)) (hy : y ≤ st.length) :
    ∀ T : State, T.heap = H → Stand p l e R s m args below meth c T locs nc ns → ∃ (vm₁ : Vm) (mk : MethodId), s.methodNamed? (pg_name x) = some mk ∧ Stand p l e R s m args below meth c (T.setVm vm₁) locs nc ns ∧
      ∀ target, (∀ acts, Steps p.tables e below (doInvoke e ((T.setVm vm₁).setTop (F0 m pc ls (st.drop y))) acts mk (st.take y).reverse.toArray).1 target) → Steps p.tables e below (T.setTop (F0 m pc ls st)) target := by
  intro T hT X
  obtain ⟨⟨hx, hb, hml, hr, hown, hts, hlocks, hin0⟩, hB, hE, htr, hex⟩ := hCx
  obtain ⟨o1, o2, o3, o4⟩ := ho
  obtain ⟨mk, methM, cM, hnamed, hmethM, -, -, -, -, -, -, hsigM⟩ := am_code hmth hts
  have hnh : (pg_name x).cls ≠ "java/lang/invoke/MethodHandle" ∧ (pg_name x).cls ≠ "java/lang/invoke/VarHandle" := hmth.2.2.1
  have hstatic : methM.isStatic = true := Cond.static_spec hnamed hmethM (hts _ o2)
  obtain ⟨kP, hkP, -⟩ := className_of_methodNamed hnamed
  have hinitP : kP.init = .initialized := Cond.initialized_spec (findClass_of_methodNamed hnamed) hkP (hts _ o3)
  obtain ⟨vm₁, X₁, hstep⟩ := X.invokestatic hx hown (hts _ o1) hnamed hmethM hstatic hkP hinitP hnh (g := F0 m pc ls st) rfl (argsL := (st.take y).reverse) (rest := st.drop y)
    (by rw [List.length_reverse, List.length_take]; have h1 := am_npar.of o4 _ hsigM; omega) (by rw [List.reverse_reverse, List.take_append_drop]) (by rw [hb]; exact hd)
  exact ⟨vm₁, mk, hnamed, X₁, hstep⟩
theorem am_goI (hCx : am_Cx B G k p l s m args meth c) (ho : am_okI k idx x y) (hmth : am_mth x) (hd : decode (pg_bytes k) pc = .ok (.invokespecial idx, 3)) (hy : y ≤ st.length) {a : Nat} {r : List Value} (hvs : (st.take y).reverse = .ref a :: r) :
    ∀ T : State, T.heap = H → Stand p l e R s m args below meth c T locs nc ns → ∃ (vm₁ : Vm) (mk : MethodId), s.methodNamed? (pg_name x) = some mk ∧ Stand p l e R s m args below meth c (T.setVm vm₁) locs nc ns ∧
      ∀ target, (∀ acts, Steps p.tables e below (doInvoke e ((T.setVm vm₁).setTop (F0 m pc ls (st.drop y))) acts mk (st.take y).reverse.toArray).1 target) → Steps p.tables e below (T.setTop (F0 m pc ls st)) target := by
  intro T hT X
  obtain ⟨⟨hx, hb, hml, hr, hown, hts, hlocks, hin0⟩, hB, hE, htr, hex⟩ := hCx
  obtain ⟨o1, o2, o3, o4, o5, o6, o7⟩ := ho
  have hnh : (pg_name x).cls ≠ "java/lang/invoke/MethodHandle" ∧ (pg_name x).cls ≠ "java/lang/invoke/VarHandle" := hmth.2.2.1
  have hpl : e.platform.magicAccessors = ({} : Platform).magicAccessors := by rw [X.admits.platform]
  have hlen : ∀ sig, parseMethodDescriptor (pg_name x).desc = some sig → r.length = sig.parameters.length := by
    intro sig hs
    have h1 := am_npar.of o5 _ hs
    have h2 : ((st.take y).reverse).length = y := by rw [List.length_reverse, List.length_take]; omega
    rw [hvs, List.length_cons] at h2
    omega
  have hstack : (F0 m pc ls st).stack = r.reverse ++ .ref a :: st.drop y := by
    have h1 : st.take y = r.reverse ++ [.ref a] := by
      have := congrArg List.reverse hvs
      rw [List.reverse_reverse, List.reverse_cons] at this
      exact this
    show st = _
    conv => lhs; rw [← List.take_append_drop y st]
    rw [h1, List.append_assoc]
    rfl
  rcases o1 with o1 | ⟨host, o1⟩
  · obtain ⟨mk, methM, cM, kP, vm₁, hnamed, hmethM, hcodeM, -, hlocalsM, -, hkP, -, hW₁, hstep⟩ := Steps.initColdArgs (e := e) X.here hx X.warmed hpl hown o4 hnh (hts _ o1) (hts _ o2) (hts _ o3) (f := F0 m pc ls st) rfl hlen hstack (by rw [hb]; exact hd)
    refine ⟨vm₁, mk, hnamed, X.noted hW₁, fun target ht => hstep target (fun acts => ?_)⟩
    have := ht acts
    rw [hvs] at this
    exact this
  · have hl9 : (Cond.methodLinkNest (pg_own k) idx (pg_name x) host).before args s = true := va_Nw.use rfl (hE.2.2.1 _ o1)
    obtain ⟨mk, methM, cM, kP, vm₁, hnamed, hmethM, hcodeM, -, hlocalsM, -, hkP, -, hW₁, hstep⟩ := Steps.initColdArgsNest (e := e) X.here hx X.warmed hpl hown o4 hnh hl9 (hts _ o2) (hts _ o3) (f := F0 m pc ls st) rfl hlen hstack (by rw [hb]; exact hd)
    refine ⟨vm₁, mk, hnamed, X.noted hW₁, fun target ht => hstep target (fun acts => ?_)⟩
    have := ht acts
    rw [hvs] at this
    exact this
end Inv
