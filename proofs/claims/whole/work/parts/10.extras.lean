-- what else is known of a state: given words that no list of good ones holds, the two statics of Throwable, the script
def pg_nw : List Cond := lw_tbl.filter (fun w => match w with
  | .methodLinkNest .. => true
  | .castable .. => true
  | .declares _ => true
  | _ => false)
def pg_nc : List (String × String) := pg_exns.flatMap fun a => (pg_exns.filter (fun b => a != b)).map fun b => (a, b)
def pg_strs : List (String × Nat × String) := lw_tbl.filterMap (fun w => match w with
  | .stringRef a i t => some (a, i, t)
  | _ => none)
def am_zd (b : Bool) : String × String := if b then ("UNASSIGNED_STACK", "[Ljava/lang/StackTraceElement;") else ("SUPPRESSED_SENTINEL", "Ljava/util/List;")
/-- a static of Throwable that holds null or a reference, its cell below B -/
def am_Z (B : Nat) (b : Bool) (U : State) (H : Heap) : Prop := ∃ (c : ClassId) (k : Class) (i : Nat) (f : Field) (a : Nat) (cell : Cell) (v : Value), U.vm.findClass "java/lang/Throwable" = some c ∧ U.fieldFound? "java/lang/Throwable" (am_zd b).1 (am_zd b).2 = some (c, k, i, f) ∧ f.isStatic = true ∧ k.statics = some a ∧ H[a]? = some cell ∧ cell.vm.isStatics = true ∧ cell.cls = c ∧ f.slot < cell.slots.size ∧ k.staticTypes[f.slot]? = some f.type ∧ cell.slots[f.slot]? = some v ∧ v.isRef = true ∧ a < B
theorem am_Z.moved {B : Nat} {b : Bool} {u U : State} {H : Heap} (hvm : u.vm.Alike U.vm) (h : am_Z B b u H) : am_Z B b U H := by
  obtain ⟨c, k, i, f, a, cell, v, h1, h2, h3, h4, h5, h6, h7, h8, h9, h10, h11, h12⟩ := h
  obtain ⟨k', hi', he⟩ := State.fieldFound?_setVm hvm h2
  exact ⟨c, k', i, f, a, cell, v, by rw [hvm.findClass]; exact h1, hi', h3, by rw [he]; exact h4, h5, h6, h7, h8, by rw [he]; exact h9, h10, h11, h12⟩
theorem am_Z.kept {B : Nat} {b : Bool} {U : State} {H H1 : Heap} (h : am_Z B b U H) (hk : ∀ a : Nat, a < B → H1[a]? = H[a]?) : am_Z B b U H1 := by
  obtain ⟨c, k, i, f, a, cell, v, h1, h2, h3, h4, h5, h6, h7, h8, h9, h10, h11, h12⟩ := h
  exact ⟨c, k, i, f, a, cell, v, h1, h2, h3, h4, by rw [hk a h12]; exact h5, h6, h7, h8, h9, h10, h11, h12⟩
theorem am_Z.lays {B : Nat} {b : Bool} {s : State} {args : Array Value} (h : am_Z B b s s.heap) : (Cond.laysStatic "java/lang/Throwable" (am_zd b).1 (am_zd b).2).before args s = true := by
  obtain ⟨c, k, i, f, a, cell, v, h1, h2, h3, h4, h5, h6, h7, h8, h9, -⟩ := h
  exact Cond.laysStatic_of h1 h2 h3 h4 h5 h6 h7 h8 h9
theorem am_Z.isRef {B : Nat} {b : Bool} {s : State} {args : Array Value} (h : am_Z B b s s.heap) : (Cond.isRef (.static "java/lang/Throwable" (am_zd b).1 (am_zd b).2)).before args s = true := by
  obtain ⟨c, k, i, f, a, cell, v, h1, h2, h3, h4, h5, h6, h7, h8, h9, h10, h11, -⟩ := h
  have he : (Term.static "java/lang/Throwable" (am_zd b).1 (am_zd b).2).eval args s none [] s = some v := by
    simp [Term.eval, State.fieldNamed?, h2, h3, h4, h5, h6, h10]
  simp only [Cond.before, Cond.holds, Cond.value, he]
  cases v <;> simp_all [Value.isRef]
def am_Ex (B : Nat) (G : am_G) (U : State) (H : Heap) : Prop :=
  (va_X G.1 G.2.1 G.2.2 U H ∧ G.1 < B) ∧ (∀ C ∈ pg_over, va_AO C U) ∧ (∀ w ∈ pg_nw, va_Nw w U) ∧ (∀ q ∈ pg_nc, va_Nc q.1 q.2 U) ∧ (∀ q ∈ pg_strs, ∃ sa : Nat, vk_R q.1 q.2.1 q.2.2 sa U) ∧ ∀ b : Bool, am_Z B b U H
theorem am_nw_warm {s U : State} (hW : s.WarmedH U.vm) {w : Cond} (hw : w ∈ pg_nw) (h : va_Nw w s) : va_Nw w U := by
  have hm := (List.mem_filter.mp hw).2
  cases w <;> simp only [] at hm <;> first | (cases hm; done) | exact va_Nw.warmM hW h | exact va_Nw.warmC hW h | exact va_Nw.warmD hW h
theorem am_Ex.to {B : Nat} {G : am_G} {s U : State} {H : Heap} (hW : s.WarmedH U.vm) (hk : ∀ a : Nat, a < B → H[a]? = s.heap[a]?) (h : am_Ex B G s s.heap) : am_Ex B G U H := by
  obtain ⟨⟨h1, h2⟩, h3, h4, h5, h6, h7⟩ := h
  exact ⟨⟨(h1.kept (hk _ h2)).moved hW.alike, h2⟩, fun C hC => va_AO.moved hW.alike (h3 C hC), fun w hw => am_nw_warm hW hw (h4 w hw), fun q hq => va_Nc.moved hW.alike (h5 q hq), fun q hq => (h6 q hq).imp fun sa z => vk_R.warm hW z, fun b => ((h7 b).kept hk).moved hW.alike⟩
