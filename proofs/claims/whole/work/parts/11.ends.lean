-- a method's context and its end
def am_exc (x : Nat) (c : Code) : Prop := c.exceptionTable.toList.map (fun z => (z.startPc, z.endPc, z.handlerPc, z.catchType)) = (pg_tab x).map (fun q => (q.1, q.2.1, q.2.2.1, q.2.2.2.1))
def am_Cx (B : Nat) (G : am_G) (k : Nat) (p : Program) (l : Launch) (s : State) (m : MethodId) (args : Array Value) (meth : Method) (c : Code) : Prop :=
  (p.tables.exec = Jvm.exec ∧ c.code = pg_bytes k ∧ c.maxLocals = pg_max k ∧ meth.sig.returnType = pg_ret k ∧ s.vm.findClass (pg_own k) = some m.cls ∧ (∀ w ∈ pg_ws, w.before args s = true) ∧ meth.locks = false ∧ (pg_isI k = true → meth.name = "<init>")) ∧
  B ≤ s.heap.size ∧ am_Ex B G s s.heap ∧ l.stackTraces = false ∧ am_exc k c
def am_oc (r : am_R) (o : Outcome) (s t : State) : Prop := match r with
  | .inl v => o = .returned v
  | .inr x => ∃ (q : Addr) (ce : Cell), o = .threw q ∧ t.heap[q]? = some ce ∧ ce.vm = .none ∧ s.vm.findClass (pg_exn x) = some ce.cls
def am_Q (B : Nat) (D : va_G) (K : am_K) (s : State) (mc ms : Nat) (o : Outcome) (t : State) : Prop :=
  s.WarmedH t.vm ∧ (∃ L : List Loc, s.sameButNew ({ t with vm := s.vm } : State) L mc ms ∧ ∀ z ∈ L, am_A B z.base) ∧ ∃ (r : am_R) (h : am_H), K r h ∧ am_Sd B D h t t.heap ∧ va_F (am_A B) s t ∧ am_oc r o s t
def am_MQ (B : Nat) (D : va_G) (K : am_K) (below : List Frame) (s : State) (mc ms : Nat) : State → Prop := fun t =>
  ∃ o, t.status = .running ∧ Ended t below o ∧ am_Q B D K s mc ms o t
section Ends
variable {B : Nat} {D : va_G} {G : am_G} {k : Nat} {p : Program} {l : Launch} {e : Env} {R : Room} {s : State} {m : MethodId} {args : Array Value} {below : List Frame} {meth : Method} {c : Code} {Q Q' : State → Prop} {C : am_C} {K K' : am_K}
variable {x y pc mc ms cells slots : Nat} {lv : am_L} {st rest st0 : List Value} {h : am_H} {nc ns : Nat} {H : Heap} {locs : List Loc} {ls : Array Slot}
theorem am_wq {g : JFrame} (hq : ∀ t, Q t → Q' t) (w : W p l e R s m args below meth c H locs cells slots Q g) : W p l e R s m args below meth c H locs cells slots Q' g := by
  intro T hT X
  obtain ⟨t, a, b⟩ := w T hT X
  exact ⟨t, a, hq t b⟩
def am_Qr (B : Nat) (D : va_G) (K : am_K) : Array Value → State → Outcome → State → Prop := fun _ st o t => ∃ (v : Option Value) (h : am_H), o = .returned v ∧ K (.inl v) h ∧ am_Sd B D h t t.heap ∧ va_F (am_A B) st t
theorem am_mq (t : State) (q : MQ below (am_Qr B D K) args s mc ms (am_A B) t) : am_MQ B D K below s mc ms t := by
  obtain ⟨o, h1, h2, ⟨v, h, h3, h4, h5, h6⟩, L, ⟨-, h7, h8⟩, h9⟩ := q
  exact ⟨o, h1, h2, h7, ⟨L, h8, h9⟩, .inl v, h, h4, h5, h6, h3⟩
theorem am_end (hS : am_Sd B D h s H) (hv : va_S (am_A B) s.heap H locs) {v : Option Value} (hk : K (.inl v) h) : ∀ t : State, t.heap = H → s.WarmedH t.vm → am_Qr B D K args s (.returned v) t :=
  fun t ht hW => ⟨v, h, rfl, hk, by rw [ht]; exact hS.moved hW.alike, hv.F ht⟩
def am_ends : Instr → Bool
  | .ireturn | .lreturn | .areturn | .return_ => true
  | _ => false
set_option maxHeartbeats 2000000 in
theorem am_sound3 (hx : p.tables.exec = Jvm.exec) (hb : c.code = pg_bytes k) (hr : meth.sig.returnType = pg_ret k) (hlocks : meth.locks = false) {i : Instr} {len : Nat} (hi : am_ends i = true) (hd : decode (pg_bytes k) pc = .ok (i, len)) (hn : am_ilen i = len)
    (q : am_ins G C k K (am_V B D k p l e R s m args below meth c (am_MQ B D K below s (pg_mc k) (pg_ms k))) i x y pc lv st h nc ns) : am_V B D k p l e R s m args below meth c (am_MQ B D K below s (pg_mc k) (pg_ms k)) pc lv st h nc ns := by
  intro ls H locs hl hS hv h1 h2
  refine am_wq (am_mq (args := args)) (W.widen (k := pg_mc k) (n := pg_ms k) h1 h2 ?_)
  cases i <;> first | (cases hi; done) | skip
  all_goals subst hn
  all_goals simp only [am_ins] at q
  case ireturn =>
    obtain ⟨a, r, rfl, ⟨rfl, ty, e1, e2⟩, u⟩ := q.out
    exact W.zret hx hb (hr.trans e1) e2 (am_end hS hv u) hv.2.2 hd hlocks
  case lreturn =>
    obtain ⟨a, r, rfl, ⟨rfl, e1⟩, u⟩ := q.out
    exact W.lret hx hb (hr.trans e1) (am_end hS hv u) hv.2.2 hd hlocks
  case areturn =>
    obtain ⟨v, r, hv9, rfl, ⟨rfl, C9, e1⟩, u⟩ := q.out
    exact W.aret hx hb (hr.trans e1) (Or.inl ⟨_, rfl⟩) (hv9.elim (fun z => Or.inr z) Or.inl) (am_end hS hv u) hv.2.2 hd hlocks
  case return_ =>
    obtain ⟨⟨rfl, e1⟩, u⟩ := q
    exact W.vret hx hb (hr.trans e1) (am_end hS hv u) hv.2.2 hd hlocks
end Ends
