-- a program that decides what the tables must say
def ck_mem (i : Nat) (w : Cond) : Bool := decide (lw_tbl[i]? = some w) && goodWord w
theorem ck_mem.ok {i : Nat} {w : Cond} (h : ck_mem i w = true) : w ∈ pg_ws := by
  unfold ck_mem at h
  rw [Bool.and_eq_true] at h
  exact am_word (of_decide_eq_true h.1) h.2
def ck_nw (i : Nat) (w : Cond) : Bool := decide (pg_nw[i]? = some w)
theorem ck_nw.ok {i : Nat} {w : Cond} (h : ck_nw i w = true) : w ∈ pg_nw := List.mem_of_getElem? (of_decide_eq_true h)
def am_NM (k : Nat) : Prop := k < 130
def ck_fld (k idx x y : Nat) (p : Nat) : Bool := match pg_classes[x]? with
  | some q => decide (y < q.2.2) && ck_mem p (.fieldLink (pg_own k) idx (q.2.1 y).1 (q.2.1 y).2.1 (q.2.1 y).2.2.1)
  | none => false
theorem ck_fld.ok {k idx x y p : Nat} (h : ck_fld k idx x y p = true) : am_okf k idx x y := by
  unfold ck_fld at h
  split at h
  · rename_i q hq
    rw [Bool.and_eq_true] at h
    exact ⟨q, hq, of_decide_eq_true h.1, ck_mem.ok h.2⟩
  · cases h
def ck_wr (k x y : Nat) : Bool := match pg_classes[x]? with
  | some q => !(q.2.1 y).2.2.2 || (pg_isI k && decide ((q.2.1 y).1 = pg_own k))
  | none => false
theorem ck_wr.ok {k x y : Nat} (h : ck_wr k x y = true) : am_okw k x y := by
  unfold ck_wr at h
  intro q hq
  rw [hq] at h
  dsimp only at h
  cases hb : (q.2.1 y).2.2.2 with
  | false => exact Or.inl rfl
  | true =>
    rw [hb] at h
    simp only [Bool.not_true, Bool.false_or, Bool.and_eq_true] at h
    exact Or.inr ⟨rfl, h.1, of_decide_eq_true h.2⟩
def ck_par (x n : Nat) : Bool := decide ((parseMethodDescriptor (pg_name x).desc).map (fun z => z.parameters.length) = some n)
theorem ck_par.ok {x n : Nat} (h : ck_par x n = true) : am_npar x n := by
  unfold ck_par at h
  unfold am_npar
  exact of_decide_eq_true h
def ck_hs (hs : List Nat) (j : Nat) : Nat := hs.getD j 0
def ck_V (k idx x y : Nat) (hs : List Nat) : Bool := decide (x < 129) && ck_mem (ck_hs hs 0) (.methodLink (pg_own k) idx (pg_name x)) && ck_mem (ck_hs hs 1) (.instanceMethod (pg_name x)) && ck_mem (ck_hs hs 2) (.selects (pg_own x) (pg_name x) (pg_name x)) && ck_par x (y - 1) && decide (1 ≤ y) && !pg_stat x && (match pg_classes[pg_cls x]? with | some q => decide (q.1 = pg_own x) | none => false)
def ck_S (k idx x y : Nat) (hs : List Nat) : Bool := decide (x < 129) && ck_mem (ck_hs hs 0) (.methodLink (pg_own k) idx (pg_name x)) && ck_mem (ck_hs hs 1) (.static (pg_name x)) && ck_mem (ck_hs hs 2) (.initialized (pg_own x)) && ck_par x y
def ck_I (k idx x y : Nat) (hs : List Nat) : Bool := decide (x < 129) && (ck_mem (ck_hs hs 0) (.methodLink (pg_own k) idx (pg_name x)) || ck_nw (ck_hs hs 2) (.methodLinkNest (pg_own k) idx (pg_name x) "SheetNeeds")) && ck_mem (ck_hs hs 1) (.instanceMethod (pg_name x)) && decide ((pg_name x).name = "<init>") && ck_par x (y - 1) && decide (1 ≤ y) && !pg_stat x && decide (pg_ret x = none) && (pg_tab x).isEmpty
def ck_B (k idx x : Nat) (hs : List Nat) : Bool := match x with
  | 900 => ck_mem (ck_hs hs 0) (.methodLink (pg_own k) idx objectInit) && ck_mem (ck_hs hs 1) (.instanceMethod objectInit) && ck_mem (ck_hs hs 2) (.code objectInit ⟨#[0xb1]⟩ 1 none)
  | 901 => ck_mem (ck_hs hs 0) (.methodLink (pg_own k) idx arraycopyName) && ck_mem (ck_hs hs 1) (.native arraycopyName) && ck_mem (ck_hs hs 2) (.static arraycopyName) && ck_mem (ck_hs hs 3) (.initialized "java/lang/System")
  | 902 => ck_mem (ck_hs hs 0) (.methodLink (pg_own k) idx Lib.Math.max.name) && ck_mem (ck_hs hs 1) (.static Lib.Math.max.name) && ck_mem (ck_hs hs 2) (.initialized "java/lang/Math") && ck_mem (ck_hs hs 3) (.code Lib.Math.max.name Lib.Math.max.code 2 (some .int))
  | 903 => ck_mem (ck_hs hs 0) (.methodLink (pg_own k) idx Lib.Math.min.name) && ck_mem (ck_hs hs 1) (.static Lib.Math.min.name) && ck_mem (ck_hs hs 2) (.initialized "java/lang/Math") && ck_mem (ck_hs hs 3) (.code Lib.Math.min.name Lib.Math.min.code 2 (some .int))
  | 904 => ck_mem (ck_hs hs 0) (.methodLink (pg_own k) idx Lib.MathLoose.max_long.x) && ck_mem (ck_hs hs 1) (.static Lib.MathLoose.max_long.x) && ck_mem (ck_hs hs 2) (.initialized "java/lang/Math") && ck_mem (ck_hs hs 3) (.code Lib.MathLoose.max_long.x Lib.MathLoose.max_long.code 4 (some .long))
  | _ => false
theorem ck_B.ok {k idx x : Nat} {hs : List Nat} (h : ck_B k idx x hs = true) : am_okB k idx x := by
  unfold ck_B at h
  split at h <;> first | (cases h; done) | skip
  all_goals simp only [Bool.and_eq_true] at h
  · exact ⟨ck_mem.ok h.1.1, ck_mem.ok h.1.2, ck_mem.ok h.2⟩
  · exact ⟨ck_mem.ok h.1.1.1, ck_mem.ok h.1.1.2, ck_mem.ok h.1.2, ck_mem.ok h.2⟩
  · exact ⟨ck_mem.ok h.1.1.1, ck_mem.ok h.1.1.2, ck_mem.ok h.1.2, ck_mem.ok h.2⟩
  · exact ⟨ck_mem.ok h.1.1.1, ck_mem.ok h.1.1.2, ck_mem.ok h.1.2, ck_mem.ok h.2⟩
  · exact ⟨ck_mem.ok h.1.1.1, ck_mem.ok h.1.1.2, ck_mem.ok h.1.2, ck_mem.ok h.2⟩
/-- the code words of the methods -/
def ck_codes : Prop := ∀ x, x < 129 → (pg_tab x = [] → Cond.code (pg_name x) (pg_bytes x) (pg_max x) (pg_ret x) ∈ pg_ws) ∧ am_okM am_NM x
theorem ck_V.ok {k idx x y : Nat} {hs : List Nat} (hc : ck_codes) (h : ck_V k idx x y hs = true) : x < 900 ∧ am_okM am_NM x ∧ am_okV k idx x y := by
  unfold ck_V at h
  simp only [Bool.and_eq_true, Bool.not_eq_true'] at h
  obtain ⟨⟨⟨⟨⟨⟨⟨h1, h2⟩, h3⟩, h4⟩, h5⟩, h6⟩, h7⟩, h8⟩ := h
  have hx := of_decide_eq_true h1
  refine ⟨by omega, (hc x hx).2, ck_mem.ok h2, ck_mem.ok h3, ck_mem.ok h4, ck_par.ok h5, of_decide_eq_true h6, h7, ?_⟩
  split at h8
  · rename_i q hq
    exact ⟨q, hq, of_decide_eq_true h8⟩
  · cases h8
theorem ck_S.ok {k idx x y : Nat} {hs : List Nat} (hc : ck_codes) (h : ck_S k idx x y hs = true) : x < 900 ∧ am_okM am_NM x ∧ am_okS k idx x y := by
  unfold ck_S at h
  simp only [Bool.and_eq_true] at h
  obtain ⟨⟨⟨⟨h1, h2⟩, h3⟩, h4⟩, h5⟩ := h
  have hx := of_decide_eq_true h1
  exact ⟨by omega, (hc x hx).2, ck_mem.ok h2, ck_mem.ok h3, ck_mem.ok h4, ck_par.ok h5⟩
theorem ck_I.ok {k idx x y : Nat} {hs : List Nat} (hc : ck_codes) (h : ck_I k idx x y hs = true) : x < 900 ∧ am_okM am_NM x ∧ am_okI k idx x y := by
  unfold ck_I at h
  simp only [Bool.and_eq_true, Bool.or_eq_true, Bool.not_eq_true', List.isEmpty_iff] at h
  obtain ⟨⟨⟨⟨⟨⟨⟨⟨h1, h2⟩, h3⟩, h4⟩, h5⟩, h6⟩, h7⟩, h8⟩, h9⟩ := h
  have hx := of_decide_eq_true h1
  have hcode := (hc x hx).1 h9
  rw [of_decide_eq_true h8] at hcode
  refine ⟨by omega, (hc x hx).2, ?_, ck_mem.ok h3, hcode, of_decide_eq_true h4, ck_par.ok h5, of_decide_eq_true h6, h7⟩
  rcases h2 with h2 | h2
  · exact Or.inl (ck_mem.ok h2)
  · exact Or.inr ⟨_, ck_nw.ok h2⟩
def ck_body (k : Nat) (q : Nat × am_I) (hs : List Nat) : Bool := match q.2.1 with
  | .ifCond _ off => decide ((q.1 : Int) + off = (q.2.2.2.1 : Int))
  | .if_icmp _ off => decide ((q.1 : Int) + off = (q.2.2.2.1 : Int))
  | .goto off => decide ((q.1 : Int) + off = (q.2.2.2.1 : Int))
  | .tableswitch dflt lo hi offs => decide (0 ≤ (q.1 : Int) + dflt) && offs.toList.all (fun o => decide (0 ≤ (q.1 : Int) + o)) && decide (hi - lo < (offs.size : Int))
  | .ldc2_w idx => ck_mem (ck_hs hs 0) (.constantLong (pg_own k) idx (pg_long k q.1))
  | .getfield idx => ck_fld k idx q.2.2.2.1 q.2.2.2.2 (ck_hs hs 0)
  | .putfield idx => ck_fld k idx q.2.2.2.1 q.2.2.2.2 (ck_hs hs 0) && ck_wr k q.2.2.2.1 q.2.2.2.2
  | .new idx => match pg_classes[q.2.2.2.1]? with
    | some c => ck_mem (ck_hs hs 0) (.classLink (pg_own k) idx c.1) && decide (q.2.2.2.1 < 500)
    | none => false
  | .newarray t => ck_mem (ck_hs hs 0) (.arrayClass (newarray.typeOf t))
  | .anewarray idx => ck_mem (ck_hs hs 0) (.classLink (pg_own k) idx (pg_cname q.2.2.2.1)) && decide (pg_cname q.2.2.2.1 ∈ pg_over)
  | .aastore => (pg_classes[q.2.2.2.1]?).isSome
  | .invokevirtual idx => ck_V k idx q.2.2.2.1 q.2.2.2.2 hs
  | .invokespecial idx => if q.2.2.2.1 = 900 then ck_B k idx 900 hs else ck_I k idx q.2.2.2.1 q.2.2.2.2 hs
  | .invokestatic idx => if 900 < q.2.2.2.1 ∧ q.2.2.2.1 < 905 then ck_B k idx q.2.2.2.1 hs else ck_S k idx q.2.2.2.1 q.2.2.2.2 hs
  | _ => true
def ck_kind (i : Instr) : Bool := am_pure i || am_heap i || am_ends i || am_inv9 i
def ck_ent (k : Nat) (q : (Nat × am_I) × List Nat) : Bool := decide (decode (pg_bytes k) q.1.1 = .ok (q.1.2.1, q.1.2.2.1)) && ck_kind q.1.2.1 && (decide (am_ilen q.1.2.1 = q.1.2.2.1) || (decide (am_ilen q.1.2.1 = 0) && am_pure q.1.2.1)) && ck_body k q.1 q.2
set_option maxHeartbeats 4000000 in
theorem ck_ent.ok (hc : ck_codes) {k pc : Nat} {i : Instr} {len x y : Nat} {hs : List Nat} (h : ck_ent k ((pc, i, len, x, y), hs) = true) : am_ok am_NM k pc i len x y := by
  unfold ck_ent at h
  simp only [Bool.and_eq_true] at h
  obtain ⟨⟨⟨h1, h2⟩, h3⟩, h4⟩ := h
  refine ⟨of_decide_eq_true h1, ?_⟩
  have hl : am_ilen i = len ∨ (am_ilen i = 0 ∧ am_pure i = true) := by
    rw [Bool.or_eq_true, Bool.and_eq_true] at h3
    rcases h3 with h3 | h3
    · exact Or.inl (of_decide_eq_true h3)
    · exact Or.inr ⟨of_decide_eq_true h3.1, h3.2⟩
  clear h1 h3
  unfold ck_body at h4
  dsimp only at h4
  unfold ck_kind at h2
  simp only [Bool.or_eq_true] at h2
  rcases h2 with ((h2 | h2) | h2) | h2
  · refine Or.inl ⟨h2, hl.imp id And.left, ?_⟩
    cases i <;> first | exact trivial | (cases h2; done) | skip
    case ifCond cd off => exact (of_decide_eq_true h4 : (pc : Int) + off = (x : Int))
    case if_icmp cd off => exact (of_decide_eq_true h4 : (pc : Int) + off = (x : Int))
    case goto off => exact (of_decide_eq_true h4 : (pc : Int) + off = (x : Int))
    case ldc2_w idx => exact ck_mem.ok h4
    case tableswitch dflt lo hi offs =>
      simp only [Bool.and_eq_true] at h4
      exact ⟨of_decide_eq_true h4.1.1, fun o ho => of_decide_eq_true (List.all_eq_true.mp h4.1.2 o ho), of_decide_eq_true h4.2⟩
  · have hl : am_ilen i = len := hl.elim id (fun z => by cases i <;> first | (cases h2; done) | (cases z.2; done))
    refine Or.inr (Or.inl ⟨h2, hl, ?_⟩)
    cases i <;> first | exact trivial | exact ck_fld.ok h4 | exact ck_mem.ok h4 | (cases h2; done) | skip
    · exact Option.isSome_iff_exists.mp h4
    · rw [Bool.and_eq_true] at h4
      exact ⟨ck_mem.ok h4.1, of_decide_eq_true h4.2⟩
    · dsimp only at h4
      split at h4
      · rename_i c hcq
        rw [Bool.and_eq_true] at h4
        exact ⟨of_decide_eq_true h4.2, c, hcq, ck_mem.ok h4.1⟩
      · cases h4
    · rw [Bool.and_eq_true] at h4
      exact ⟨ck_fld.ok h4.1, ck_wr.ok h4.2⟩
  · have hl : am_ilen i = len := hl.elim id (fun z => by cases i <;> first | (cases h2; done) | (cases z.2; done))
    exact Or.inr (Or.inr (Or.inl ⟨h2, hl⟩))
  · have hl : am_ilen i = len := hl.elim id (fun z => by cases i <;> first | (cases h2; done) | (cases z.2; done))
    refine Or.inr (Or.inr (Or.inr (Or.inr ⟨h2, ?_, ?_⟩)))
    · cases i <;> first | (cases h2; done) | exact hl.symm
    · cases i <;> first | (cases h2; done) | skip
      · dsimp only at h4
        split at h4
        · rename_i hx
          exact Or.inl ⟨hx, ck_B.ok h4⟩
        · exact Or.inr (ck_I.ok hc h4)
      · dsimp only at h4
        split at h4
        · rename_i hx
          exact Or.inl ⟨by omega, ck_B.ok h4⟩
        · exact Or.inr (ck_S.ok hc h4)
      · exact ck_V.ok hc h4
/-- a throw's words -/
def ck_wok (w : Cond) : Bool := (decide (w ∈ lw_tbl) && goodWord w) || decide (w ∈ pg_nw) || decide (w ∈ am_zw true) || decide (w ∈ am_zw false)
theorem ck_wok.ok {w : Cond} (h : ck_wok w = true) : am_wok w := by
  unfold ck_wok at h
  simp only [Bool.or_eq_true, Bool.and_eq_true] at h
  rcases h with ((h | h) | h) | h
  · exact Or.inl (List.mem_filter.mpr ⟨of_decide_eq_true h.1, h.2⟩)
  · exact Or.inr (Or.inl (of_decide_eq_true h))
  · exact Or.inr (Or.inr (Or.inl (of_decide_eq_true h)))
  · exact Or.inr (Or.inr (Or.inr (of_decide_eq_true h)))
def ck_names : List String := ["java/lang/RuntimeException", "java/lang/Exception"]
theorem ck_lookup {l : List (Nat × am_I)} {P : Nat → am_I → Prop} (h : ∀ q ∈ l, P q.1 q.2) {pc : Nat} {v : am_I} (hl : l.lookup pc = some v) : P pc v := by
  induction l with
  | nil => cases hl
  | cons q t ih =>
    obtain ⟨a, b⟩ := q
    rw [List.lookup_cons] at hl
    split at hl
    · rename_i hb
      have : pc = a := by simpa using hb
      subst this
      cases hl
      exact h _ List.mem_cons_self
    · exact ih (fun q hq => h q (List.mem_cons_of_mem _ hq)) hl
/-- a method's entries, each with the places of its words; those of throws stand apart -/
theorem ck_list (hc : ck_codes) {k : Nat} {l : List (Nat × am_I)} {hs : List (List Nat)} (hlen : l.length ≤ hs.length) (h : (l.zip hs).all (fun q => ck_ent k q) = true) : ∀ q ∈ l, am_ok am_NM k q.1 q.2.1 q.2.2.1 q.2.2.2.1 q.2.2.2.2 := by
  induction l generalizing hs with
  | nil => intro q hq; cases hq
  | cons a t ih =>
    cases hs with
    | nil => simp at hlen
    | cons b u =>
      rw [List.zip_cons_cons, List.all_cons, Bool.and_eq_true] at h
      intro q hq
      rcases List.mem_cons.mp hq with rfl | hq
      · exact ck_ent.ok hc h.1
      · exact ih (by simpa using hlen) h.2 q hq
def ck_isT (i : Instr) (x : Nat) : Bool := match i with
  | .new _ => decide (500 ≤ x)
  | _ => false
theorem ck_list2 (hc : ck_codes) {k : Nat} {l : List (Nat × am_I)} {hs : List (List Nat)} (hlen : l.length ≤ hs.length) (h : (l.zip hs).all (fun q => ck_isT q.1.2.1 q.1.2.2.2.1 || ck_ent k q) = true)
    (hT : ∀ q ∈ l, ck_isT q.2.1 q.2.2.2.1 = true → am_ok am_NM k q.1 q.2.1 q.2.2.1 q.2.2.2.1 q.2.2.2.2) : ∀ q ∈ l, am_ok am_NM k q.1 q.2.1 q.2.2.1 q.2.2.2.1 q.2.2.2.2 := by
  induction l generalizing hs with
  | nil => intro q hq; cases hq
  | cons a t ih =>
    cases hs with
    | nil => simp at hlen
    | cons b u =>
      rw [List.zip_cons_cons, List.all_cons, Bool.and_eq_true, Bool.or_eq_true] at h
      intro q hq
      rcases List.mem_cons.mp hq with rfl | hq
      · rcases h.1 with h1 | h1
        · exact hT _ List.mem_cons_self h1
        · exact ck_ent.ok hc h1
      · exact ih (by simpa using hlen) h.2 (fun q hq => hT q (List.mem_cons_of_mem _ hq)) q hq
/-- one throw -/
def ck_T (k pc x idx is ic p1 p2 p3 : Nat) (text : String) : Bool := (pg_tab k).isEmpty && decide (decode (pg_bytes k) pc = .ok (.new idx, 3)) && decide (decode (pg_bytes k) (pc + 3) = .ok (.dup, 1)) && decide (decode (pg_bytes k) (pc + 4) = .ok (.ldc is, 2)) && decide (decode (pg_bytes k) (pc + 6) = .ok (.invokespecial ic, 3)) && decide (decode (pg_bytes k) (pc + 9) = .ok (.athrow, 1)) &&
  ck_mem p1 (.classLink (pg_own k) idx (pg_exn x)) && ck_mem p2 (.initialized (pg_exn x)) && ck_mem p3 (.instantiable (pg_exn x) 6) && decide ((pg_own k, is, text) ∈ pg_strs) && decide (500 ≤ x) && decide (6 ≤ pg_lev k) && decide (pg_own k = "SheetNeeds")
theorem ck_T.ok {k pc x idx is ic p1 p2 p3 : Nat} {text : String} (hf : Bundle.fit (pg_exn x) = true) (hn : ∀ n ∈ ck_names, Bundle.fit n = true) (ha : ∀ w ∈ Bundle.ownAtoms "SheetNeeds" ic (pg_exn x) ck_names, am_wok w) (h : ck_T k pc x idx is ic p1 p2 p3 text = true) : am_ok am_NM k pc (.new idx) 3 x 0 := by
  unfold ck_T at h
  simp only [Bool.and_eq_true, List.isEmpty_iff] at h
  obtain ⟨⟨⟨⟨⟨⟨⟨⟨⟨⟨⟨⟨h1, h2⟩, h3⟩, h4⟩, h5⟩, h6⟩, h7⟩, h8⟩, h9⟩, h10⟩, h11⟩, h12⟩, h13⟩ := h
  have ho : pg_own k = "SheetNeeds" := of_decide_eq_true h13
  refine ⟨of_decide_eq_true h2, Or.inr (Or.inr (Or.inr (Or.inl ⟨idx, rfl, rfl, of_decide_eq_true h11, of_decide_eq_true h12, ck_names, text, is, ic, ⟨h1, by decide, of_decide_eq_true h3, of_decide_eq_true h4, of_decide_eq_true h5, of_decide_eq_true h6⟩, hf, hn, ck_mem.ok h7, ck_mem.ok h8, ck_mem.ok h9, of_decide_eq_true h10, ?_⟩)))⟩
  rw [ho]
  exact ha
