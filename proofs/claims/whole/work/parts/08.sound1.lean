-- THE MACHINE IS SOUND: what its step asks gives the kit's judgement W
abbrev am_A (B : Nat) : Nat → Prop := fun q => B ≤ q
def am_V (B : Nat) (D : va_G) (k : Nat) (p : Program) (l : Launch) (e : Env) (R : Room) (s : State) (m : MethodId) (args : Array Value) (below : List Frame) (meth : Method) (c : Code) (Q : State → Prop) : am_X := fun pc lv st h nc ns =>
  ∀ (ls : Array Slot) (H : Heap) (locs : List Loc), am_lv ls (pg_max k) lv → am_Sd B D h s H → va_S (am_A B) s.heap H locs → nc ≤ pg_mc k → ns ≤ pg_ms k → W p l e R s m args below meth c H locs nc ns Q (F0 m pc ls st)
section Sound1
variable {B : Nat} {D : va_G} {G : am_G} {k : Nat} {p : Program} {l : Launch} {e : Env} {R : Room} {s : State} {m : MethodId} {args : Array Value} {below : List Frame} {meth : Method} {c : Code} {Q : State → Prop} {C : am_C} {K : am_K}
variable {x y pc : Nat} {lv : am_L} {st : List Value} {h : am_H} {nc ns : Nat}
set_option maxHeartbeats 2000000 in
theorem am_icmp (hx : p.tables.exec = Jvm.exec) (hb : c.code = pg_bytes k) {cd : ClassFile.Cond} {off : Int} (hd : decode (pg_bytes k) pc = .ok (.if_icmp cd off, 3)) (ht : (pc : Int) + off = (x : Int)) {a b : Int32} {r : List Value}
    (q : am_br (am_cmp cd a b) (am_V B D k p l e R s m args below meth c Q x lv r h nc ns) (am_V B D k p l e R s m args below meth c Q (pc + 3) lv r h nc ns)) : am_V B D k p l e R s m args below meth c Q pc lv (.int b :: .int a :: r) h nc ns := by
  intro ls H locs hl hS hv h1 h2
  obtain ⟨q1, q2⟩ := q
  cases cd
  · exact lv_icmp_eq hx hb hd ht (fun z => q1 z ls H locs hl hS hv h1 h2) (fun z => q2 z ls H locs hl hS hv h1 h2)
  · exact lv_icmp_ne hx hb hd ht (fun z => q1 z ls H locs hl hS hv h1 h2) (fun z => q2 (fun w => w z) ls H locs hl hS hv h1 h2)
  · exact lv_icmp_lt hx hb hd ht (fun z => q1 z ls H locs hl hS hv h1 h2) (fun z => q2 z ls H locs hl hS hv h1 h2)
  · exact lv_icmp_ge hx hb hd ht (fun z => q1 z ls H locs hl hS hv h1 h2) (fun z => q2 z ls H locs hl hS hv h1 h2)
  · exact lv_icmp_gt hx hb hd ht (fun z => q1 z ls H locs hl hS hv h1 h2) (fun z => q2 z ls H locs hl hS hv h1 h2)
  · exact lv_icmp_le hx hb hd ht (fun z => q1 z ls H locs hl hS hv h1 h2) (fun z => q2 z ls H locs hl hS hv h1 h2)
set_option maxHeartbeats 2000000 in
theorem am_ifc (hx : p.tables.exec = Jvm.exec) (hb : c.code = pg_bytes k) {cd : ClassFile.Cond} {off : Int} (hd : decode (pg_bytes k) pc = .ok (.ifCond cd off, 3)) (ht : (pc : Int) + off = (x : Int)) {a : Int32} {r : List Value}
    (q : am_br (am_cmp cd a 0) (am_V B D k p l e R s m args below meth c Q x lv r h nc ns) (am_V B D k p l e R s m args below meth c Q (pc + 3) lv r h nc ns)) : am_V B D k p l e R s m args below meth c Q pc lv (.int a :: r) h nc ns := by
  intro ls H locs hl hS hv h1 h2
  obtain ⟨q1, q2⟩ := q
  cases cd
  · exact lv_if_eq hx hb hd ht (fun z => q1 z ls H locs hl hS hv h1 h2) (fun z => q2 z ls H locs hl hS hv h1 h2)
  · exact lv_if_ne hx hb hd ht (fun z => q1 z ls H locs hl hS hv h1 h2) (fun z => q2 (fun w => w z) ls H locs hl hS hv h1 h2)
  · exact lv_if_lt hx hb hd ht (fun z => q1 z ls H locs hl hS hv h1 h2) (fun z => q2 z ls H locs hl hS hv h1 h2)
  · exact lv_if_ge hx hb hd ht (fun z => q1 z ls H locs hl hS hv h1 h2) (fun z => q2 z ls H locs hl hS hv h1 h2)
  · exact lv_if_gt hx hb hd ht (fun z => q1 z ls H locs hl hS hv h1 h2) (fun z => q2 z ls H locs hl hS hv h1 h2)
  · exact lv_if_le hx hb hd ht (fun z => q1 z ls H locs hl hS hv h1 h2) (fun z => q2 z ls H locs hl hS hv h1 h2)
theorem am_swt (hx : p.tables.exec = Jvm.exec) (hb : c.code = pg_bytes k) {dflt lo hi : Int} {offs : Array Int} {len : Nat} (hd : decode (pg_bytes k) pc = .ok (.tableswitch dflt lo hi offs, len))
    (ht : 0 ≤ (pc : Int) + dflt ∧ (∀ o ∈ offs.toList, 0 ≤ (pc : Int) + o) ∧ hi - lo < (offs.size : Int)) {a : Int32} {r : List Value}
    (q : am_V B D k p l e R s m args below meth c Q (am_tsw dflt lo hi offs pc a) lv r h nc ns) : am_V B D k p l e R s m args below meth c Q pc lv (.int a :: r) h nc ns := by
  intro ls H locs hl hS hv h1 h2
  have q := q ls H locs hl hS hv h1 h2
  obtain ⟨t1, t2, t3⟩ := ht
  unfold am_tsw at q
  split at q
  · rename_i hc
    exact lv_tableOut hx hb hd hc (by rw [Int.toNat_of_nonneg t1]) q
  · rename_i hc
    have hj : (a.toInt - lo).toNat < offs.size := by omega
    have ho : offs[(a.toInt - lo).toNat]? = some offs[(a.toInt - lo).toNat] := Array.getElem?_eq_getElem hj
    rw [ho] at q
    dsimp only at q
    have hm : offs[(a.toInt - lo).toNat] ∈ offs.toList := Array.mem_toList_iff.mpr (Array.getElem_mem hj)
    exact lv_tableIn hx hb hd (fun z => hc (Or.inl z)) (fun z => hc (Or.inr z)) ho (by rw [Int.toNat_of_nonneg (t2 _ hm)]) q
/-- what the tables must say of an instruction that touches no heap -/
def am_ok1 (k pc : Nat) (i : Instr) (x : Nat) : Prop := match i with
  | .ifCond _ off => (pc : Int) + off = (x : Int)
  | .if_icmp _ off => (pc : Int) + off = (x : Int)
  | .goto off => (pc : Int) + off = (x : Int)
  | .tableswitch dflt lo hi offs => 0 ≤ (pc : Int) + dflt ∧ (∀ o ∈ offs.toList, 0 ≤ (pc : Int) + o) ∧ hi - lo < (offs.size : Int)
  | .ldc2_w index => Cond.constantLong (pg_own k) index (pg_long k pc) ∈ pg_ws
  | _ => True
def am_ilen : Instr → Nat
  | .iconst _ | .lconst _ | .aconst_null | .iload_n _ | .lload_n _ | .aload_n _ | .istore_n _ | .lstore_n _ | .astore_n _ => 1
  | .iadd | .isub | .imul | .iand | .ior | .ixor | .idiv | .irem | .ineg | .ladd | .lsub | .lmul | .land | .lor | .ldiv | .lshl | .i2l | .lcmp | .dup | .pop | .dup_x1 | .dup2 => 1
  | .iaload | .baload | .laload | .aaload | .iastore | .bastore | .lastore | .aastore | .arraylength | .ireturn | .lreturn | .areturn | .return_ => 1
  | .bipush _ | .iload _ | .lload _ | .aload _ | .istore _ | .lstore _ | .astore _ | .newarray _ => 2
  | .sipush _ | .ldc2_w _ | .iinc _ _ | .ifCond _ _ | .if_icmp _ _ | .goto _ | .getfield _ | .putfield _ | .new _ | .anewarray _ | .invokevirtual _ | .invokespecial _ | .invokestatic _ => 3
  | _ => 0
def am_pure : Instr → Bool
  | .iconst _ | .lconst _ | .aconst_null | .iload_n _ | .lload_n _ | .aload_n _ | .istore_n _ | .lstore_n _ | .astore_n _ => true
  | .iadd | .isub | .imul | .iand | .ior | .ixor | .idiv | .irem | .ineg | .ladd | .lsub | .lmul | .land | .lor | .ldiv | .lshl | .i2l | .lcmp | .dup | .pop | .dup_x1 | .dup2 => true
  | .bipush _ | .iload _ | .lload _ | .aload _ | .istore _ | .lstore _ | .astore _ => true
  | .sipush _ | .ldc2_w _ | .iinc _ _ | .ifCond _ _ | .if_icmp _ _ | .goto _ | .tableswitch _ _ _ _ => true
  | _ => false
set_option maxHeartbeats 8000000 in
theorem am_sound1 (hx : p.tables.exec = Jvm.exec) (hb : c.code = pg_bytes k) (hown : s.vm.findClass (pg_own k) = some m.cls) (hts : ∀ w ∈ pg_ws, w.before args s = true) {i : Instr} {len : Nat} (hi : am_pure i = true)
    (hd : decode (pg_bytes k) pc = .ok (i, len)) (hn : am_ilen i = len ∨ am_ilen i = 0) (ho : am_ok1 k pc i x) (q : am_ins G C k K (am_V B D k p l e R s m args below meth c Q) i x y pc lv st h nc ns) : am_V B D k p l e R s m args below meth c Q pc lv st h nc ns := by
  intro ls H locs hl hS hv h1 h2
  cases i <;> first | (cases hi; done) | skip
  all_goals try (rcases hn with hn | hn <;> first | (cases hn; done) | subst hn)
  all_goals simp only [am_ins] at q
  case iconst n => exact lv_iconst hx hb hd rfl (q ls H locs hl hS hv h1 h2)
  case bipush n => exact lv_bipush hx hb hd rfl (q ls H locs hl hS hv h1 h2)
  case sipush n => exact lv_sipush hx hb hd rfl (q ls H locs hl hS hv h1 h2)
  case lconst n => exact lv_lconst hx hb hd rfl (q ls H locs hl hS hv h1 h2)
  case aconst_null => exact lv_null hx hb hd (q ls H locs hl hS hv h1 h2)
  case ldc2_w n => exact lv_ldc2 hx hb hown (hts _ ho) hd (q ls H locs hl hS hv h1 h2)
  case iload n =>
    obtain ⟨a, ha, u1⟩ := q.out
    exact lv_iload hx hb hd (hl.2.2 _ _ ha) (u1 ls H locs hl hS hv h1 h2)
  case iload_n n =>
    obtain ⟨a, ha, u1⟩ := q.out
    exact lv_iload_n hx hb hd rfl (hl.2.2 _ _ ha) (u1 ls H locs hl hS hv h1 h2)
  case lload n =>
    obtain ⟨a, ha, u1⟩ := q.out
    exact lv_lload hx hb hd (hl.2.2 _ _ ha) (u1 ls H locs hl hS hv h1 h2)
  case lload_n n =>
    obtain ⟨a, ha, u1⟩ := q.out
    exact lv_lload_n hx hb hd rfl (hl.2.2 _ _ ha) (u1 ls H locs hl hS hv h1 h2)
  case aload n =>
    obtain ⟨v, hv9, ha, u1⟩ := q.out
    rcases hv9 with ⟨a, rfl⟩ | rfl
    · exact lv_aload hx hb hd (hl.2.2 _ _ ha) (u1 ls H locs hl hS hv h1 h2)
    · exact lv_aloadN hx hb hd (hl.2.2 _ _ ha) (u1 ls H locs hl hS hv h1 h2)
  case aload_n n =>
    obtain ⟨v, hv9, ha, u1⟩ := q.out
    rcases hv9 with ⟨a, rfl⟩ | rfl
    · exact lv_aload_n hx hb hd rfl (hl.2.2 _ _ ha) (u1 ls H locs hl hS hv h1 h2)
    · exact lv_aload_nN hx hb hd rfl (hl.2.2 _ _ ha) (u1 ls H locs hl hS hv h1 h2)
  case istore n =>
    obtain ⟨a, r, rfl, hn, u1⟩ := q.out
    exact lv_istore hx hb hd hl.has hn rfl (fun ls' hl' => u1 ls' H locs (am_lv.st1 hl') hS hv h1 h2)
  case istore_n n =>
    obtain ⟨a, r, rfl, hn, u1⟩ := q.out
    exact lv_istore_n hx hb hd rfl hl.has hn rfl (fun ls' hl' => u1 ls' H locs (am_lv.st1 hl') hS hv h1 h2)
  case lstore n =>
    obtain ⟨a, r, rfl, hn, u1⟩ := q.out
    exact lv_lstore hx hb hd hl.has hn rfl (fun ls' hl' => u1 ls' H locs (am_lv.st2 hl') hS hv h1 h2)
  case lstore_n n =>
    obtain ⟨a, r, rfl, hn, u1⟩ := q.out
    exact lv_lstore_n hx hb hd rfl hl.has hn rfl (fun ls' hl' => u1 ls' H locs (am_lv.st2 hl') hS hv h1 h2)
  case astore n =>
    obtain ⟨v, r, hv9, rfl, hn, u1⟩ := q.out
    rcases hv9 with ⟨a, rfl⟩ | rfl
    · exact lv_astore hx hb hd hl.has hn rfl (fun ls' hl' => u1 ls' H locs (am_lv.st1 hl') hS hv h1 h2)
    · exact lv_astoreN hx hb hd hl.has hn rfl (fun ls' hl' => u1 ls' H locs (am_lv.st1 hl') hS hv h1 h2)
  case astore_n n =>
    obtain ⟨v, r, hv9, rfl, hn, u1⟩ := q.out
    rcases hv9 with ⟨a, rfl⟩ | rfl
    · exact lv_astore_n hx hb hd rfl hl.has hn rfl (fun ls' hl' => u1 ls' H locs (am_lv.st1 hl') hS hv h1 h2)
    · exact lv_astore_nN hx hb hd rfl hl.has hn rfl (fun ls' hl' => u1 ls' H locs (am_lv.st1 hl') hS hv h1 h2)
  case iinc n dd =>
    obtain ⟨a, ha, hn, u1⟩ := q.out
    obtain ⟨kk, hk⟩ := List.getElem?_of_mem (am_as_mem.mpr ha)
    exact lv_iinc hx hb hd hl.has hk rfl hn rfl (fun ls' hl' => u1 ls' H locs (am_lv.st1 hl') hS hv h1 h2)
  case iadd => obtain ⟨a, b, r, rfl, u1⟩ := q.out; exact lv_iadd hx hb hd (u1 ls H locs hl hS hv h1 h2)
  case isub => obtain ⟨a, b, r, rfl, u1⟩ := q.out; exact lv_isub hx hb hd (u1 ls H locs hl hS hv h1 h2)
  case imul => obtain ⟨a, b, r, rfl, u1⟩ := q.out; exact lv_imul hx hb hd (u1 ls H locs hl hS hv h1 h2)
  case iand => obtain ⟨a, b, r, rfl, u1⟩ := q.out; exact lv_iand hx hb hd (u1 ls H locs hl hS hv h1 h2)
  case ior => obtain ⟨a, b, r, rfl, u1⟩ := q.out; exact lv_ior hx hb hd (u1 ls H locs hl hS hv h1 h2)
  case ixor => obtain ⟨a, b, r, rfl, u1⟩ := q.out; exact lv_ixor hx hb hd (u1 ls H locs hl hS hv h1 h2)
  case idiv => obtain ⟨a, b, r, rfl, h0, u1⟩ := q.out; exact lv_idiv hx hb hd h0 (u1 ls H locs hl hS hv h1 h2)
  case irem => obtain ⟨a, b, r, rfl, h0, u1⟩ := q.out; exact lv_irem hx hb hd h0 (u1 ls H locs hl hS hv h1 h2)
  case ineg => obtain ⟨a, r, rfl, u1⟩ := q.out; exact lv_ineg hx hb hd (u1 ls H locs hl hS hv h1 h2)
  case ladd => obtain ⟨a, b, r, rfl, u1⟩ := q.out; exact lv_ladd hx hb hd (u1 ls H locs hl hS hv h1 h2)
  case lsub => obtain ⟨a, b, r, rfl, u1⟩ := q.out; exact lv_lsub hx hb hd (u1 ls H locs hl hS hv h1 h2)
  case lmul => obtain ⟨a, b, r, rfl, u1⟩ := q.out; exact lv_lmul hx hb hd (u1 ls H locs hl hS hv h1 h2)
  case land => obtain ⟨a, b, r, rfl, u1⟩ := q.out; exact lv_land hx hb hd (u1 ls H locs hl hS hv h1 h2)
  case lor => obtain ⟨a, b, r, rfl, u1⟩ := q.out; exact lv_lor hx hb hd (u1 ls H locs hl hS hv h1 h2)
  case ldiv => obtain ⟨a, b, r, rfl, h0, u1⟩ := q.out; exact lv_ldiv hx hb hd h0 (u1 ls H locs hl hS hv h1 h2)
  case lshl => obtain ⟨a, b, r, rfl, u1⟩ := q.out; exact lv_lshl hx hb hd rfl (u1 ls H locs hl hS hv h1 h2)
  case i2l => obtain ⟨a, r, rfl, u1⟩ := q.out; exact lv_i2l hx hb hd rfl (u1 ls H locs hl hS hv h1 h2)
  case lcmp => obtain ⟨a, b, r, rfl, u1⟩ := q.out; exact W.lcmp hx hb hd (u1 ls H locs hl hS hv h1 h2)
  case dup => obtain ⟨v, r, rfl, hc, u1⟩ := q.out; exact lv_dup hx hb hd hc (u1 ls H locs hl hS hv h1 h2)
  case pop => obtain ⟨v, r, rfl, hc, u1⟩ := q.out; exact lv_pop hx hb hd hc (u1 ls H locs hl hS hv h1 h2)
  case dup_x1 =>
    obtain ⟨v, r, rfl, u1⟩ := q.out
    obtain ⟨w, r, rfl, hc, hc2, u2⟩ := u1.out
    exact lv_dup_x1 hx hb hd hc hc2 (u2 ls H locs hl hS hv h1 h2)
  case dup2 =>
    obtain ⟨v, r, rfl, u1⟩ := q.out
    obtain ⟨w, r, rfl, hc, hc2, u2⟩ := u1.out
    exact lv_dup2_11 hx hb hd hc hc2 (u2 ls H locs hl hS hv h1 h2)
  case ifCond cd off => obtain ⟨a, r, rfl, u1⟩ := q.out; exact am_ifc hx hb hd ho u1 ls H locs hl hS hv h1 h2
  case if_icmp cd off => obtain ⟨a, b, r, rfl, u1⟩ := q.out; exact am_icmp hx hb hd ho u1 ls H locs hl hS hv h1 h2
  case goto off => exact lv_goto hx hb hd ho (q ls H locs hl hS hv h1 h2)
  case tableswitch dflt lo hi offs => obtain ⟨a, r, rfl, u1⟩ := q.out; exact am_swt hx hb hd ho u1 ls H locs hl hS hv h1 h2
end Sound1
