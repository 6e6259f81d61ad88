-- 'throw new E("text")' that leaves the method
section Thr
variable {B : Nat} {D : va_G} {G : am_G} {k d : Nat} {p : Program} {l : Launch} {e : Env} {R R' : Room} {s : State} {m : MethodId} {args : Array Value} {below : List Frame} {meth : Method} {c : Code} {K : am_K}
variable {x y pc idx : Nat} {lv : am_L} {st : List Value} {h : am_H} {cells slots : Nat} {H : Heap} {locs : List Loc} {ls : Array Slot}
/-- the state as if the method were called here and now -/
def am_now (T s : State) (m : MethodId) (args : Array Value) (below : List Frame) : State := (T.setVm s.vm).setFrames (.invoking m args :: below)
theorem am_rebase {T : State} (X : Stand p l e R s m args below meth c T locs cells slots) (hf : R'.frames ≤ R.frames) (hl : R'.locals ≤ R.locals) (hc : cells + R'.cells ≤ R.cells) (hs : slots + R'.slots ≤ R.slots) :
    Stand p l e R' (am_now T s m args below) m args below meth c T [] 0 0 := by
  have htop : (T.setVm s.vm).topJava?.isSome := X.here.top
  obtain ⟨g0, hg0⟩ := Option.isSome_iff_exists.mp htop
  obtain ⟨fr, hfr⟩ := State.topJava?_eq_some.mp hg0
  obtain ⟨th, hth, -⟩ := State.frames_cons hfr
  have hF : (am_now T s m args below).frames = .invoking m args :: below := State.frames_setFrames _ (State.cur_lt_of_top htop)
  have hU : (am_now T s m args below).localsInUse = s.localsInUse := by
    rw [State.localsInUse_invoking hF (meth := meth) (c := c) X.method X.code, State.localsInUse_invoking X.frames X.method X.code]
  have hlim : e.platform.stackLimits (am_now T s m args below).me = e.platform.stackLimits s.me := by
    unfold am_now
    rw [State.stackLimits_setFrames]
    exact X.limits
  have hbyt : (am_now T s m args below).me.stackBytes = s.me.stackBytes := by
    unfold am_now
    rw [State.stackBytes_setFrames]
    exact X.bytes
  have hroom : (am_now T s m args below).hasRoom e.platform R' = true := by
    have q := X.room
    have q1 := X.heapSize
    have q2 := X.used
    have q3 := X.book
    simp only [State.hasRoom, Bool.and_eq_true, decide_eq_true_eq] at q ⊢
    obtain ⟨⟨⟨⟨r1, r2, r3, r4, r5, r6⟩, r7⟩, r8⟩, -⟩ := q
    rw [X.frames, List.length_cons] at r2 r3
    rw [hU, hlim, hbyt, hF, List.length_cons]
    have e1 : (am_now T s m args below).heap.size = T.heap.size := rfl
    have e2 : (am_now T s m args below).slotsUsed = T.slotsUsed := rfl
    rw [e1, e2]
    exact ⟨⟨⟨⟨by omega, by omega, by omega, by omega, by omega, r6⟩, by omega⟩, by omega⟩, q3⟩
  refine ⟨X.admits, X.cas, X.clock, hF, hroom, X.hears, X.method, X.code, X.here, X.tail, X.warmed, ?_, ?_, ?_⟩
  · rw [hlim]; exact X.limits
  · rw [hbyt]; exact X.bytes
  · have hz : (T.heap.toList.drop T.heap.size) = [] := List.drop_eq_nil_of_le (Nat.le_of_eq Array.length_toList)
    refine ⟨?_, Nat.le_refl _, Nat.le_refl _, ?_, ?_, fun a c9 h9 => ⟨c9, h9, rfl, rfl, fun _ _ => rfl⟩⟩
    · show T.setVm s.vm = { (am_now T s m args below).setFrames (T.setVm s.vm).frames with heap := T.heap, slotsUsed := T.slotsUsed }
      unfold am_now
      rw [State.setFrames_setFrames, State.setFrames_self hth]
      rfl
    · show T.slotsUsed = T.slotsUsed + ((T.heap.toList.drop T.heap.size).map (·.slots.size)).sum
      rw [hz]; rfl
    · show ((T.heap.toList.drop T.heap.size).map (·.slots.size)).sum ≤ 0
      rw [hz]; exact Nat.le_refl _
def am_zw (b : Bool) : List Cond := [.laysStatic "java/lang/Throwable" (am_zd b).1 (am_zd b).2, .isRef (.static "java/lang/Throwable" (am_zd b).1 (am_zd b).2)]
/-- a word of a throw: a good one, one of the others that are kept, or one on the two statics -/
def am_wok (w : Cond) : Prop := w ∈ pg_ws ∨ w ∈ pg_nw ∨ w ∈ am_zw true ∨ w ∈ am_zw false
def am_okT (k pc x idx : Nat) : Prop := ∃ (names : List String) (text : String) (is ic : Nat), (pg_tab k = [] ∧ names.length ≤ 3 ∧ decode (pg_bytes k) (pc + 3) = .ok (.dup, 1) ∧ decode (pg_bytes k) (pc + 4) = .ok (.ldc is, 2) ∧ decode (pg_bytes k) (pc + 6) = .ok (.invokespecial ic, 3) ∧ decode (pg_bytes k) (pc + 9) = .ok (.athrow, 1)) ∧
  Bundle.fit (pg_exn x) = true ∧ (∀ n ∈ names, Bundle.fit n = true) ∧ Cond.classLink (pg_own k) idx (pg_exn x) ∈ pg_ws ∧ Cond.initialized (pg_exn x) ∈ pg_ws ∧ Cond.instantiable (pg_exn x) 6 ∈ pg_ws ∧ (pg_own k, is, text) ∈ pg_strs ∧ ∀ w ∈ Bundle.ownAtoms (pg_own k) ic (pg_exn x) names, am_wok w
theorem am_nw_use {w : Cond} (hw : w ∈ pg_nw) {s : State} (h : va_Nw w s) : w.before args s = true := by
  refine va_Nw.use ?_ h
  have hm := (List.mem_filter.mp hw).2
  cases w <;> simp only [] at hm <;> first | (cases hm; done) | rfl
theorem am_frame {U : State} {n1 n2 : Nat} (h : s.sameButNew ({ U with vm := s.vm } : State) [] n1 n2) : s.heap.size ≤ U.heap.size ∧ ∀ q : Nat, q < s.heap.size → U.heap[q]? = s.heap[q]? := by
  obtain ⟨-, h2, -, -, -, h6⟩ := h
  refine ⟨h2, fun q hq => ?_⟩
  obtain ⟨c9, e1, e2, -, e4⟩ := h6 q _ (Array.getElem?_eq_getElem hq)
  have hs : c9.slots = (s.heap[q]).slots := Array.ext_getElem? fun i => e4 i (fun z => by cases z)
  rw [hs] at e2
  have e5 : U.heap[q]? = some c9 := e1
  rw [e5, Array.getElem?_eq_getElem hq, e2]
set_option maxHeartbeats 4000000 in
theorem am_throw (hR : 8 ≤ R.frames) (hRl : 120 ≤ R.locals) (hrc : R.cells = pg_mc k) (hrs : R.slots = pg_ms k) (hCx : am_Cx B G k p l s m args meth c) (ho : am_okT k pc x idx) (hd : decode (pg_bytes k) pc = .ok (.new idx, 3)) (hl : am_lv ls (pg_max k) lv) (hS : am_Sd B D h s H) (hv : va_S (am_A B) s.heap H locs)
    (hw : am_words st ≤ 8) (hc : cells + 1 ≤ pg_mc k) (hs : slots + 6 ≤ pg_ms k) (hk : K (.inr x) h) :
    W p l e R s m args below meth c H locs cells slots (am_MQ B D K below s (pg_mc k) (pg_ms k)) (F0 m pc ls st) := by
  intro T hT X
  obtain ⟨⟨hx, hb, hml, hr, hown, hts, hlocks, hin0⟩, hB, hE, htr, hex⟩ := hCx
  obtain ⟨names, text, is, ic, ⟨ht0, hnl, d3, d4, d6, d9⟩, hfit, hnames, o1, o2, o3, o4, o5⟩ := ho
  have htr' : e.platform.stackTraces = false := (show e.platform.stackTraces = l.stackTraces by rw [X.admits.platform]).trans htr
  have Y := am_rebase X (R' := { frames := R.frames, locals := R.locals, cells := 1, slots := 6 }) (Nat.le_refl _) (Nat.le_refl _) (by rw [hrc]; exact hc) (by rw [hrs]; exact hs)
  have hvm : (am_now T s m args below).vm = s.vm := rfl
  have hhp : (am_now T s m args below).heap = H := hT
  have hW0 : s.WarmedH (am_now T s m args below).vm := State.WarmedH.refl s
  generalize hN : am_now T s m args below = s' at Y hvm hhp hW0
  have hE' : am_Ex B G s' s'.heap := am_Ex.to hW0 (fun a ha => by rw [hhp]; exact hv.2.1 a (Nat.lt_of_lt_of_le ha hB) (Nat.not_le.mpr ha)) hE
  have hts' : ∀ w ∈ pg_ws, w.before args s' = true := fun w hw9 => word_at hW0 (good_of_word (List.mem_filter.mp hw9).2) (hts w hw9)
  have hat : ∀ w ∈ Bundle.ownAtoms (pg_own k) ic (pg_exn x) names, w.before args s' = true := by
    intro w hw9
    have hz : ∀ b, w ∈ am_zw b → w.before args s' = true := by
      intro b hb9
      unfold am_zw at hb9
      rcases List.mem_cons.mp hb9 with rfl | hb9
      · exact (hE'.2.2.2.2.2 b).lays
      · rcases List.mem_cons.mp hb9 with rfl | hb9
        · exact (hE'.2.2.2.2.2 b).isRef
        · cases hb9
    rcases o5 w hw9 with q | q | q | q
    · exact hts' w q
    · exact am_nw_use q (hE'.2.2.1 w q)
    · exact hz true q
    · exact hz false q
  obtain ⟨sa, hsa⟩ := hE'.2.2.2.2.1 _ o4
  have hown' : s'.vm.findClass (pg_own k) = some m.cls := by rw [hvm]; exact hown
  obtain ⟨vm₁, cX, kX, hfX, hkX, -, -, X₁, st1⟩ := Y.newCold hx (own := pg_own k) (C := pg_exn x) (index := idx) (n := 6) hown' (hts' _ o1) (hts' _ o3) (hts' _ o2)
    (g := F0 m pc ls st) rfl (by rw [hb]; exact hd) (Nat.le_refl _) (Nat.le_refl _)
  generalize hT1 : (T.setVm vm₁).pushCell { cls := cX, slots := kX.instanceTypes.map defaultValue, vm := .none } = T1 at X₁ st1
  have hcat : (Value.ref T.heap.size).category = 1 := rfl
  have hcellA : T1.heap[T.heap.size]? = some (freshCell cX kX) := by rw [← hT1]; exact State.heap_pushCell_size _ _
  have d3' : decode c.code (pc + 3) = .ok (.dup, 1) := by rw [hb]; exact d3
  have d4' : decode c.code (pc + 4) = .ok (.ldc is, 2) := by rw [hb]; exact d4
  obtain ⟨U, hsteps, hrun, hend, hW, hsame, ce, hce, hO⟩ := X₁.ctorThrowS hx htr' (own := pg_own k) (cls := pg_exn x) (names := names) (ic := ic) hown' hfit hnames hat (fun x hx => nomatch hx) hfX hkX hcellA (by rw [hhp, hT]; exact Nat.le_refl _) (msg := .ref sa) rfl
    (g := { method := m, pc := pc + 6, locals := ls, stack := .ref sa :: .ref T.heap.size :: .ref T.heap.size :: st, locked := none }) rfl (hl.1.trans hml.symm) rfl rfl (rest := st) rfl
    (by rw [hb]; exact d6) (by rw [hb]; exact d9) (am_tabs_nil hex ht0) (by show names.length + 3 < R.frames; omega)
    (by
      show 2 * 0 + ((Value.ref T.heap.size :: st).map fun v => v.category).sum + (13 * (names.length + 1) + 42) ≤ R.locals
      unfold am_words at hw
      simp only [List.map_cons, List.sum_cons, hcat]
      omega) hlocks
  obtain ⟨f1, f2⟩ := am_frame hsame
  rw [hhp] at f1 f2
  have hWs : s.WarmedH U.vm := State.WarmedH.trans hW0 hW
  have hcl : s.vm.findClass (pg_exn x) = some ce.cls := by
    have h9 := hO.cls
    rw [hvm] at h9
    exact h9
  have hall : s.sameButNew ({ U with vm := s.vm } : State) locs (pg_mc k) (pg_ms k) := by
    subst hN
    obtain ⟨e1, e2⟩ := hsame
    unfold am_now at e1
    rw [State.setFrames_setFrames] at e1
    have h2 : (T.setVm s.vm).sameButNew ({ U with vm := s.vm } : State) [] (0 + 1) (0 + 6) := ⟨e1, e2⟩
    have h3 := X.same.trans h2
    rw [List.append_nil] at h3
    exact h3.mono hc hs
  have hUd : am_Sd B D h U U.heap := (hS.kept (H1 := U.heap) f2).moved hWs.alike
  have hUF : va_F (am_A B) s U := ⟨Nat.le_trans hv.1 f1, fun q h1 h2 => by rw [f2 q (Nat.lt_of_lt_of_le h1 hv.1)]; exact hv.2.1 q h1 h2⟩
  refine ⟨U, ?_, .threw T.heap.size, hrun, hend, hWs, ⟨locs, hall, hv.2.2⟩, .inr x, h, hk, hUd, hUF, T.heap.size, ce, rfl, hce, hO.vm, hcl⟩
  refine st1 _ ?_
  show Steps p.tables e below (T1.setTop { method := m, pc := pc + 3, locals := ls, stack := .ref T.heap.size :: st, locked := none }) _
  jvm_step X₁.here [X₁.here.top, hx, d3', Value.category]
  exact X₁.ldcString hx (own := pg_own k) (text := text) (index := is) (a := sa) hown' hsa.1 hsa.2
    (g := { method := m, pc := pc + 4, locals := ls, stack := .ref T.heap.size :: .ref T.heap.size :: st, locked := none }) rfl d4' _ hsteps
end Thr
