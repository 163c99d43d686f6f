section
-- ===== PART A: goes FIRST, ahead of the names: the tables' words, and 'selects' of the private methods out of them =====
/-- a private method of a class that the tables say can be made, by its rows of tables_1 -/
def lw_okq (q : MethodName × Nat) : Prop := (q.1.cls ≠ "java/lang/invoke/MethodHandle" ∧ q.1.cls ≠ "java/lang/invoke/VarHandle") ∧ Cond.instantiable q.1.cls q.2 ∈ tables_1 ∧ Cond.privateMethod q.1 ∈ tables_1 ∧ Cond.instanceMethod q.1 ∈ tables_1
theorem lw_p0 : lw_okq (⟨"ReplicaHeap", "setRoot", "(IZI)V"⟩, 15) := ⟨⟨by decide +kernel, by decide +kernel⟩, List.mem_of_getElem? (i := 13) (by decide +kernel), List.mem_of_getElem? (i := 126) (by decide +kernel), List.mem_of_getElem? (i := 127) (by decide +kernel)⟩
theorem lw_p1 : lw_okq (⟨"java/lang/Throwable", "fillInStackTrace", "(I)Ljava/lang/Throwable;"⟩, 6) := ⟨⟨by decide +kernel, by decide +kernel⟩, List.mem_of_getElem? (i := 187) (by decide +kernel), List.mem_of_getElem? (i := 185) (by decide +kernel), List.mem_of_getElem? (i := 186) (by decide +kernel)⟩
theorem lw_p2 : lw_okq (⟨"ReplicaHeap", "makeRoom", "(I)V"⟩, 15) := ⟨⟨by decide +kernel, by decide +kernel⟩, List.mem_of_getElem? (i := 13) (by decide +kernel), List.mem_of_getElem? (i := 212) (by decide +kernel), List.mem_of_getElem? (i := 213) (by decide +kernel)⟩
theorem lw_p3 : lw_okq (⟨"ReplicaHeap$Space", "hasRoom", "(I)Z"⟩, 5) := ⟨⟨by decide +kernel, by decide +kernel⟩, List.mem_of_getElem? (i := 46) (by decide +kernel), List.mem_of_getElem? (i := 216) (by decide +kernel), List.mem_of_getElem? (i := 217) (by decide +kernel)⟩
theorem lw_p4 : lw_okq (⟨"ReplicaHeap", "work", "(I)V"⟩, 15) := ⟨⟨by decide +kernel, by decide +kernel⟩, List.mem_of_getElem? (i := 13) (by decide +kernel), List.mem_of_getElem? (i := 221) (by decide +kernel), List.mem_of_getElem? (i := 222) (by decide +kernel)⟩
theorem lw_p5 : lw_okq (⟨"ReplicaHeap", "step", "()I"⟩, 15) := ⟨⟨by decide +kernel, by decide +kernel⟩, List.mem_of_getElem? (i := 13) (by decide +kernel), List.mem_of_getElem? (i := 225) (by decide +kernel), List.mem_of_getElem? (i := 226) (by decide +kernel)⟩
theorem lw_p6 : lw_okq (⟨"ReplicaHeap", "takeEntry", "()I"⟩, 15) := ⟨⟨by decide +kernel, by decide +kernel⟩, List.mem_of_getElem? (i := 13) (by decide +kernel), List.mem_of_getElem? (i := 229) (by decide +kernel), List.mem_of_getElem? (i := 230) (by decide +kernel)⟩
theorem lw_p7 : lw_okq (⟨"ReplicaHeap$Space", "setCell", "(III)V"⟩, 5) := ⟨⟨by decide +kernel, by decide +kernel⟩, List.mem_of_getElem? (i := 46) (by decide +kernel), List.mem_of_getElem? (i := 233) (by decide +kernel), List.mem_of_getElem? (i := 234) (by decide +kernel)⟩
theorem lw_p8 : lw_okq (⟨"ReplicaHeap", "forward", "(I)I"⟩, 15) := ⟨⟨by decide +kernel, by decide +kernel⟩, List.mem_of_getElem? (i := 13) (by decide +kernel), List.mem_of_getElem? (i := 237) (by decide +kernel), List.mem_of_getElem? (i := 238) (by decide +kernel)⟩
theorem lw_p9 : lw_okq (⟨"ReplicaHeap", "replicate", "(I)I"⟩, 15) := ⟨⟨by decide +kernel, by decide +kernel⟩, List.mem_of_getElem? (i := 13) (by decide +kernel), List.mem_of_getElem? (i := 241) (by decide +kernel), List.mem_of_getElem? (i := 242) (by decide +kernel)⟩
theorem lw_p10 : lw_okq (⟨"ReplicaHeap", "rootWithoutReplica", "()I"⟩, 15) := ⟨⟨by decide +kernel, by decide +kernel⟩, List.mem_of_getElem? (i := 13) (by decide +kernel), List.mem_of_getElem? (i := 245) (by decide +kernel), List.mem_of_getElem? (i := 246) (by decide +kernel)⟩
theorem lw_p11 : lw_okq (⟨"ReplicaHeap", "flip", "()V"⟩, 15) := ⟨⟨by decide +kernel, by decide +kernel⟩, List.mem_of_getElem? (i := 13) (by decide +kernel), List.mem_of_getElem? (i := 249) (by decide +kernel), List.mem_of_getElem? (i := 250) (by decide +kernel)⟩
theorem lw_p12 : lw_okq (⟨"ReplicaHeap$Log", "clear", "()V"⟩, 4) := ⟨⟨by decide +kernel, by decide +kernel⟩, List.mem_of_getElem? (i := 21) (by decide +kernel), List.mem_of_getElem? (i := 253) (by decide +kernel), List.mem_of_getElem? (i := 254) (by decide +kernel)⟩
theorem lw_p13 : lw_okq (⟨"ReplicaHeap$Space", "layObject", "(I)I"⟩, 5) := ⟨⟨by decide +kernel, by decide +kernel⟩, List.mem_of_getElem? (i := 46) (by decide +kernel), List.mem_of_getElem? (i := 260) (by decide +kernel), List.mem_of_getElem? (i := 261) (by decide +kernel)⟩
theorem lw_p14 : lw_okq (⟨"ReplicaHeap", "hasField", "(II)Z"⟩, 15) := ⟨⟨by decide +kernel, by decide +kernel⟩, List.mem_of_getElem? (i := 13) (by decide +kernel), List.mem_of_getElem? (i := 273) (by decide +kernel), List.mem_of_getElem? (i := 274) (by decide +kernel)⟩
theorem lw_p15 : lw_okq (⟨"ReplicaHeap", "change", "(IIII)V"⟩, 15) := ⟨⟨by decide +kernel, by decide +kernel⟩, List.mem_of_getElem? (i := 13) (by decide +kernel), List.mem_of_getElem? (i := 292) (by decide +kernel), List.mem_of_getElem? (i := 293) (by decide +kernel)⟩
def lw_privs_1 : List (MethodName × Nat) := [(⟨"ReplicaHeap", "setRoot", "(IZI)V"⟩, 15), (⟨"java/lang/Throwable", "fillInStackTrace", "(I)Ljava/lang/Throwable;"⟩, 6), (⟨"ReplicaHeap", "makeRoom", "(I)V"⟩, 15), (⟨"ReplicaHeap$Space", "hasRoom", "(I)Z"⟩, 5), (⟨"ReplicaHeap", "work", "(I)V"⟩, 15), (⟨"ReplicaHeap", "step", "()I"⟩, 15), (⟨"ReplicaHeap", "takeEntry", "()I"⟩, 15), (⟨"ReplicaHeap$Space", "setCell", "(III)V"⟩, 5), (⟨"ReplicaHeap", "forward", "(I)I"⟩, 15), (⟨"ReplicaHeap", "replicate", "(I)I"⟩, 15), (⟨"ReplicaHeap", "rootWithoutReplica", "()I"⟩, 15), (⟨"ReplicaHeap", "flip", "()V"⟩, 15), (⟨"ReplicaHeap$Log", "clear", "()V"⟩, 4), (⟨"ReplicaHeap$Space", "layObject", "(I)I"⟩, 5), (⟨"ReplicaHeap", "hasField", "(II)Z"⟩, 15), (⟨"ReplicaHeap", "change", "(IIII)V"⟩, 15)]
theorem lw_r1 : ∀ q ∈ lw_privs_1, lw_okq q := List.forall_mem_cons.mpr ⟨lw_p0, List.forall_mem_cons.mpr ⟨lw_p1, List.forall_mem_cons.mpr ⟨lw_p2, List.forall_mem_cons.mpr ⟨lw_p3, List.forall_mem_cons.mpr ⟨lw_p4, List.forall_mem_cons.mpr ⟨lw_p5, List.forall_mem_cons.mpr ⟨lw_p6, List.forall_mem_cons.mpr ⟨lw_p7, List.forall_mem_cons.mpr ⟨lw_p8, List.forall_mem_cons.mpr ⟨lw_p9, List.forall_mem_cons.mpr ⟨lw_p10, List.forall_mem_cons.mpr ⟨lw_p11, List.forall_mem_cons.mpr ⟨lw_p12, List.forall_mem_cons.mpr ⟨lw_p13, List.forall_mem_cons.mpr ⟨lw_p14, List.forall_mem_cons.mpr ⟨lw_p15, fun _ h => absurd h List.not_mem_nil⟩⟩⟩⟩⟩⟩⟩⟩⟩⟩⟩⟩⟩⟩⟩⟩
theorem lw_p16 : lw_okq (⟨"ReplicaHeap$Log", "add", "(II)V"⟩, 4) := ⟨⟨by decide +kernel, by decide +kernel⟩, List.mem_of_getElem? (i := 21) (by decide +kernel), List.mem_of_getElem? (i := 296) (by decide +kernel), List.mem_of_getElem? (i := 297) (by decide +kernel)⟩
theorem lw_p17 : lw_okq (⟨"ReplicaHeapModel", "open", "()V"⟩, 22) := ⟨⟨by decide +kernel, by decide +kernel⟩, List.mem_of_getElem? (i := 366) (by decide +kernel), List.mem_of_getElem? (i := 450) (by decide +kernel), List.mem_of_getElem? (i := 451) (by decide +kernel)⟩
theorem lw_p18 : lw_okq (⟨"ReplicaHeapModel", "has", "(I)Z"⟩, 22) := ⟨⟨by decide +kernel, by decide +kernel⟩, List.mem_of_getElem? (i := 366) (by decide +kernel), List.mem_of_getElem? (i := 454) (by decide +kernel), List.mem_of_getElem? (i := 455) (by decide +kernel)⟩
theorem lw_p19 : lw_okq (⟨"ReplicaHeapModel", "pause", "()V"⟩, 22) := ⟨⟨by decide +kernel, by decide +kernel⟩, List.mem_of_getElem? (i := 366) (by decide +kernel), List.mem_of_getElem? (i := 458) (by decide +kernel), List.mem_of_getElem? (i := 459) (by decide +kernel)⟩
theorem lw_p20 : lw_okq (⟨"ReplicaHeapModel", "begin", "()V"⟩, 22) := ⟨⟨by decide +kernel, by decide +kernel⟩, List.mem_of_getElem? (i := 366) (by decide +kernel), List.mem_of_getElem? (i := 462) (by decide +kernel), List.mem_of_getElem? (i := 463) (by decide +kernel)⟩
theorem lw_p21 : lw_okq (⟨"ReplicaHeapModel", "other", "()I"⟩, 22) := ⟨⟨by decide +kernel, by decide +kernel⟩, List.mem_of_getElem? (i := 366) (by decide +kernel), List.mem_of_getElem? (i := 466) (by decide +kernel), List.mem_of_getElem? (i := 467) (by decide +kernel)⟩
theorem lw_p22 : lw_okq (⟨"ReplicaHeapModel", "work", "(I)I"⟩, 22) := ⟨⟨by decide +kernel, by decide +kernel⟩, List.mem_of_getElem? (i := 366) (by decide +kernel), List.mem_of_getElem? (i := 470) (by decide +kernel), List.mem_of_getElem? (i := 471) (by decide +kernel)⟩
theorem lw_p23 : lw_okq (⟨"ReplicaHeapModel", "step", "()I"⟩, 22) := ⟨⟨by decide +kernel, by decide +kernel⟩, List.mem_of_getElem? (i := 366) (by decide +kernel), List.mem_of_getElem? (i := 474) (by decide +kernel), List.mem_of_getElem? (i := 475) (by decide +kernel)⟩
theorem lw_p24 : lw_okq (⟨"ReplicaHeapModel", "take", "()I"⟩, 22) := ⟨⟨by decide +kernel, by decide +kernel⟩, List.mem_of_getElem? (i := 366) (by decide +kernel), List.mem_of_getElem? (i := 478) (by decide +kernel), List.mem_of_getElem? (i := 479) (by decide +kernel)⟩
theorem lw_p25 : lw_okq (⟨"ReplicaHeapModel", "refer", "(II)I"⟩, 22) := ⟨⟨by decide +kernel, by decide +kernel⟩, List.mem_of_getElem? (i := 366) (by decide +kernel), List.mem_of_getElem? (i := 485) (by decide +kernel), List.mem_of_getElem? (i := 486) (by decide +kernel)⟩
theorem lw_p26 : lw_okq (⟨"ReplicaHeapModel", "replicate", "(I)I"⟩, 22) := ⟨⟨by decide +kernel, by decide +kernel⟩, List.mem_of_getElem? (i := 366) (by decide +kernel), List.mem_of_getElem? (i := 489) (by decide +kernel), List.mem_of_getElem? (i := 490) (by decide +kernel)⟩
theorem lw_p27 : lw_okq (⟨"ReplicaHeapModel", "look", "()I"⟩, 22) := ⟨⟨by decide +kernel, by decide +kernel⟩, List.mem_of_getElem? (i := 366) (by decide +kernel), List.mem_of_getElem? (i := 493) (by decide +kernel), List.mem_of_getElem? (i := 494) (by decide +kernel)⟩
theorem lw_p28 : lw_okq (⟨"ReplicaHeapModel", "nextRoot", "()I"⟩, 22) := ⟨⟨by decide +kernel, by decide +kernel⟩, List.mem_of_getElem? (i := 366) (by decide +kernel), List.mem_of_getElem? (i := 497) (by decide +kernel), List.mem_of_getElem? (i := 498) (by decide +kernel)⟩
theorem lw_p29 : lw_okq (⟨"ReplicaHeapModel", "flip", "()I"⟩, 22) := ⟨⟨by decide +kernel, by decide +kernel⟩, List.mem_of_getElem? (i := 366) (by decide +kernel), List.mem_of_getElem? (i := 501) (by decide +kernel), List.mem_of_getElem? (i := 502) (by decide +kernel)⟩
theorem lw_p30 : lw_okq (⟨"ReplicaHeapModel", "close", "()V"⟩, 22) := ⟨⟨by decide +kernel, by decide +kernel⟩, List.mem_of_getElem? (i := 366) (by decide +kernel), List.mem_of_getElem? (i := 505) (by decide +kernel), List.mem_of_getElem? (i := 506) (by decide +kernel)⟩
theorem lw_p31 : lw_okq (⟨"ReplicaHeapModel", "hasField", "(II)Z"⟩, 22) := ⟨⟨by decide +kernel, by decide +kernel⟩, List.mem_of_getElem? (i := 366) (by decide +kernel), List.mem_of_getElem? (i := 513) (by decide +kernel), List.mem_of_getElem? (i := 514) (by decide +kernel)⟩
def lw_privs_2 : List (MethodName × Nat) := [(⟨"ReplicaHeap$Log", "add", "(II)V"⟩, 4), (⟨"ReplicaHeapModel", "open", "()V"⟩, 22), (⟨"ReplicaHeapModel", "has", "(I)Z"⟩, 22), (⟨"ReplicaHeapModel", "pause", "()V"⟩, 22), (⟨"ReplicaHeapModel", "begin", "()V"⟩, 22), (⟨"ReplicaHeapModel", "other", "()I"⟩, 22), (⟨"ReplicaHeapModel", "work", "(I)I"⟩, 22), (⟨"ReplicaHeapModel", "step", "()I"⟩, 22), (⟨"ReplicaHeapModel", "take", "()I"⟩, 22), (⟨"ReplicaHeapModel", "refer", "(II)I"⟩, 22), (⟨"ReplicaHeapModel", "replicate", "(I)I"⟩, 22), (⟨"ReplicaHeapModel", "look", "()I"⟩, 22), (⟨"ReplicaHeapModel", "nextRoot", "()I"⟩, 22), (⟨"ReplicaHeapModel", "flip", "()I"⟩, 22), (⟨"ReplicaHeapModel", "close", "()V"⟩, 22), (⟨"ReplicaHeapModel", "hasField", "(II)Z"⟩, 22)]
theorem lw_r2 : ∀ q ∈ lw_privs_2, lw_okq q := List.forall_mem_cons.mpr ⟨lw_p16, List.forall_mem_cons.mpr ⟨lw_p17, List.forall_mem_cons.mpr ⟨lw_p18, List.forall_mem_cons.mpr ⟨lw_p19, List.forall_mem_cons.mpr ⟨lw_p20, List.forall_mem_cons.mpr ⟨lw_p21, List.forall_mem_cons.mpr ⟨lw_p22, List.forall_mem_cons.mpr ⟨lw_p23, List.forall_mem_cons.mpr ⟨lw_p24, List.forall_mem_cons.mpr ⟨lw_p25, List.forall_mem_cons.mpr ⟨lw_p26, List.forall_mem_cons.mpr ⟨lw_p27, List.forall_mem_cons.mpr ⟨lw_p28, List.forall_mem_cons.mpr ⟨lw_p29, List.forall_mem_cons.mpr ⟨lw_p30, List.forall_mem_cons.mpr ⟨lw_p31, fun _ h => absurd h List.not_mem_nil⟩⟩⟩⟩⟩⟩⟩⟩⟩⟩⟩⟩⟩⟩⟩⟩
theorem lw_p32 : lw_okq (⟨"ReplicaHeapModel", "change", "(IIII)V"⟩, 22) := ⟨⟨by decide +kernel, by decide +kernel⟩, List.mem_of_getElem? (i := 366) (by decide +kernel), List.mem_of_getElem? (i := 517) (by decide +kernel), List.mem_of_getElem? (i := 518) (by decide +kernel)⟩
def lw_privs_3 : List (MethodName × Nat) := [(⟨"ReplicaHeapModel", "change", "(IIII)V"⟩, 22)]
theorem lw_r3 : ∀ q ∈ lw_privs_3, lw_okq q := List.forall_mem_cons.mpr ⟨lw_p32, fun _ h => absurd h List.not_mem_nil⟩
def lw_privs : List (MethodName × Nat) := lw_privs_1 ++ (lw_privs_2 ++ (lw_privs_3))
def lw_tbl : List Cond := k2_sels lw_privs ++ tables_1
theorem lw_privs_ok : ∀ q ∈ lw_privs, lw_okq q := by
  show ∀ q ∈ lw_privs_1 ++ (lw_privs_2 ++ (lw_privs_3)), lw_okq q
  exact List.forall_mem_append.mpr ⟨lw_r1, List.forall_mem_append.mpr ⟨lw_r2, lw_r3⟩⟩
end
section
/-! ===== BEGIN words of one list among another's, by their places ===== -/
theorem goodIn_r {big : List Cond} (ws : List Cond) (ps : List Nat) (hp : ws = ps.filterMap (fun i => big[i]?)) (h : ws.all goodWord = true) : GoodIn big ws := by
  intro w hw
  have h1 := List.all_eq_true.mp h w hw
  rw [hp] at hw
  obtain ⟨i, -, hi⟩ := List.mem_filterMap.mp hw
  have hm : w ∈ big := by first | exact List.mem_of_getElem? hi | exact List.getElem?_mem hi
  exact ⟨hm, good_of_word h1⟩
theorem goodIn_app {big a b : List Cond} (ha : GoodIn big a) (hb : GoodIn big b) : GoodIn big (a ++ b) := fun w h => (List.mem_append.mp h).elim (ha w) (hb w)
theorem goodIn_ca {big a b : List Cond} {c : Cond} (ha : GoodIn big (c :: a)) (hb : GoodIn big b) : GoodIn big (c :: (a ++ b)) := fun w h => (List.mem_cons.mp h).elim (fun e => ha w (List.mem_cons.mpr (Or.inl e))) (fun h => (List.mem_append.mp h).elim (fun h => ha w (List.mem_cons.mpr (Or.inr h))) (hb w))
theorem goodIn_sub {big ws : List Cond} (hm : ∀ w ∈ ws, w ∈ big) (h : ws.all goodWord = true) : GoodIn big ws := fun w hw => ⟨hm w hw, good_of_word (List.all_eq_true.mp h w hw)⟩
/-! ===== END ===== -/

/-! ===== BEGIN exceptions that leave a method, and their catching by the caller (launches without stack traces) ===== -/
section VXA0
/-! MY OWN ROWS: a search through a table whose classes may not be resolved yet. -/
/-- one row that covers the pc and names a class: the class is noted; then the row takes the object, or the search goes on -/
theorem rh_row {Q : Handler → Pre} {E : CtlPost} {e : Env} {d : Bool} {acts : List Action} {S : State} {f : JFrame} {a : Addr} {x : ExceptionTableEntry} {t : List ExceptionTableEntry} {k : ClassId} {cell : Cell}
    (hx : covers x f.pc = true) (h0 : x.catchType ≠ 0) (hl : S.vm.ClassLinks e.platform f.method.cls x.catchType k) (hcell : S.heap[a]? = some cell) (hobj : ∀ j, cell.vm ≠ .statics j) (h1 : ∃ j, S.vm.classes[cell.cls]? = some j) (h2 : ∃ j, S.vm.classes[k]? = some j) :
    wp (findHandler.go f a (x :: t)) Q E e d acts S ↔ if S.vm.assignable cell.cls k = true then Q (.found x.handlerPc) d acts (S.setVm (S.vm.noted f.method.cls x.catchType (.cls k))) else wp (findHandler.go f a t) Q E e d acts (S.setVm (S.vm.noted f.method.cls x.catchType (.cls k))) := by
  simp only [covers] at hx
  have hg := (resolveClass_links e.toSetting hl).op (op := VmOp.resolveClass f.method.cls x.catchType) rfl
  have ha : S.vm.Alike (S.vm.noted f.method.cls x.catchType (.cls k)) := (Vm.Alike.refl S.vm).noted _ _ _
  obtain ⟨j1, e1⟩ := h1
  obtain ⟨j2, e2⟩ := h2
  obtain ⟨i1, f1, -⟩ := ha.2.2 _ _ e1
  obtain ⟨i2, f2, -⟩ := ha.2.2 _ _ e2
  cases hc : S.vm.assignable cell.cls k <;>
  · have hc' := hc
    rw [← ha.assignable] at hc'
    simp [findHandler.go, hx, h0, hg.1, hg.2, hcell, hobj, f1, f2, hc', VmOp.dirties, VmOp.acts]
/-- the whole search: rows that don't take the object, then one that does; the tables stay warmed -/
theorem rh_seek {e : Env} {s0 : State} {f : JFrame} {a : Addr} {cell : Cell} (hobj : ∀ j, cell.vm ≠ .statics j) (h1 : ∃ j, s0.vm.classes[cell.cls]? = some j) {x : ExceptionTableEntry} {suf : List ExceptionTableEntry} (hx : covers x f.pc = true) (h0 : x.catchType ≠ 0) {k : ClassId} (hl : s0.vm.ClassLinks e.platform f.method.cls x.catchType k) (hfit : s0.vm.assignable cell.cls k = true) :
    ∀ (pre : List ExceptionTableEntry) (S : State), s0.WarmedH S.vm → S.heap[a]? = some cell → (∀ z ∈ pre, covers z f.pc = false ∨ (z.catchType ≠ 0 ∧ ∃ j, s0.vm.ClassLinks e.platform f.method.cls z.catchType j ∧ s0.vm.assignable cell.cls j = false)) →
      ∃ vm1, s0.WarmedH vm1 ∧ ∀ (Q : Handler → Pre) (E : CtlPost) (d : Bool) (acts : List Action), wp (findHandler.go f a (pre ++ x :: suf)) Q E e d acts S ↔ Q (.found x.handlerPc) d acts (S.setVm vm1) := by
  have step : ∀ (z : ExceptionTableEntry) (j : ClassId) (S : State), s0.WarmedH S.vm → s0.vm.ClassLinks e.platform f.method.cls z.catchType j → s0.WarmedH (S.vm.noted f.method.cls z.catchType (.cls j)) ∧ S.vm.ClassLinks e.platform f.method.cls z.catchType j ∧ (∃ i, S.vm.classes[cell.cls]? = some i) ∧ (∃ i, S.vm.classes[j]? = some i) ∧ S.vm.assignable cell.cls j = s0.vm.assignable cell.cls j := by
    intro z j S hW hj
    obtain ⟨dk, _, _, kt, hd, _, _, _, _, hkt, _, hopen⟩ := hj.here
    obtain ⟨i0, hi0⟩ := h1
    obtain ⟨i1, g1, -⟩ := hW.alike.2.2 _ _ hi0
    obtain ⟨i2, g2, -⟩ := hW.alike.2.2 _ _ hkt
    exact ⟨hW.noted hd hopen (State.rightAt_cls hj), hW.classLinks hj, ⟨i1, g1⟩, ⟨i2, g2⟩, hW.alike.assignable _ _⟩
  intro pre
  induction pre with
  | nil =>
    intro S hW hcell _
    obtain ⟨w1, w2, w3, w4, w5⟩ := step x k S hW hl
    refine ⟨_, w1, fun Q E d acts => ?_⟩
    rw [List.nil_append, rh_row hx h0 w2 hcell hobj w3 w4, w5, if_pos hfit]
  | cons z zs ih =>
    intro S hW hcell hpass
    have hrest := fun y hy => hpass y (List.mem_cons_of_mem z hy)
    cases hcov : covers z f.pc with
    | false =>
      obtain ⟨vm1, hW1, hq⟩ := ih S hW hcell hrest
      exact ⟨vm1, hW1, fun Q E d acts => by rw [List.cons_append, Jvm.W.findHandler_go_skip hcov]; exact hq Q E d acts⟩
    | true =>
      rcases hpass z List.mem_cons_self with h | ⟨hz, j, hj, hno⟩
      · rw [h] at hcov; cases hcov
      · obtain ⟨w1, w2, w3, w4, w5⟩ := step z j S hW hj
        obtain ⟨vm1, hW1, hq⟩ := ih (S.setVm (S.vm.noted f.method.cls z.catchType (.cls j))) w1 hcell hrest
        exact ⟨vm1, hW1, fun Q E d acts => by rw [List.cons_append, rh_row hcov hz w2 hcell hobj w3 w4, w5, hno, if_neg (by decide)]; exact hq Q E d acts⟩
/-- the note 'a is thrown' over the frame g, and a search that ends at a handler: the machine goes on there -/
theorem rh_land {tb : Tables} {e : Env} {T : State} {g : JFrame} {c : Code} {below : List Frame} {a : Addr} {pc : Nat} {vm1 : Vm} (h : At T g.method c below)
    (hf : ∀ (Q : Handler → Pre) (E : CtlPost) (d : Bool) (acts : List Action), wp (findHandler g a) Q E e d acts ((T.setTop g).pushFrame (.throwing a)) ↔ Q (.found pc) d acts (((T.setTop g).pushFrame (.throwing a)).setVm vm1)) :
    Steps tb e below ((T.setTop g).pushFrame (.throwing a)) ((T.setVm vm1).setTop { g with pc := pc, stack := [.ref a] }) := by
  obtain ⟨hgo, hw⟩ := h.throwing a
  refine Steps.head hgo hw ?_
  obtain ⟨g0, hg0⟩ := Option.isSome_iff_exists.mp h.top
  obtain ⟨r, hr⟩ := State.topJava?_eq_some.mp hg0
  have hr1 : (T.setVm vm1).frames = .java g0 :: r := hr
  have key : (stepThrowing e ((T.setTop g).pushFrame (.throwing a)) a (.java g :: r)).Is ((((T.setTop g).pushFrame (.throwing a)).setVm vm1).setFrames (.java { g with pc := pc, stack := [.ref a] } :: r)) [] := by
    simp only [stepThrowing, searchFrame, vmDo]
    generalize hres : Sem.go _ e false [] _ = res
    obtain ⟨as, rfl, ha⟩ := Sem.eq_ok_of hres (a := Handler.found pc) (s' := ((T.setTop g).pushFrame (.throwing a)).setVm vm1) (acts' := []) (by simp [hf _ _ _ _])
    exact ⟨rfl, ha⟩
  have hfr := frames_entered (g := g) h.top (.throwing a)
  rw [stepThread_throwing hfr, hr, List.tail_cons, key.1]
  have e1 : (((T.setTop g).pushFrame (.throwing a)).setVm vm1).setFrames (.java { g with pc := pc, stack := [.ref a] } :: r) = (T.setVm vm1).setTop { g with pc := pc, stack := [.ref a] } := by
    rw [State.setTop_of_frames _ hr1, State.pushFrame, State.setTop_of_frames _ hr]
    show ((((T.setVm vm1).setFrames _).setFrames _).setFrames _) = _
    rw [State.setFrames_setFrames, State.setFrames_setFrames]
  rw [e1]
  exact Steps.refl _
end VXA0
section VXA
/-! The laws vx_back, vx_callV, vx_callS, vx_callSW, vx_throw0, vx_throwS follow proofs of the library, with one case more: JvmDerived/Free/Laws.lean (Back.of_free), Shelf42/LK1.lean (callV, callS), Shelf/KitTraced.lean (throwNew0V, throwNewS). -/
/-- where a method has thrown q: the class by its name, the cell, what was written, the world -/
def vx_T (XC : String → State → State → Prop) (st : State) (q : Addr) (t : State) (mc ms : Nat) (free : Addr → Prop) : Prop :=
  ∃ (E : String) (ce : Cell) (L : List Loc), XC E st t ∧ t.heap[q]? = some ce ∧ ce.vm = .none ∧ st.vm.findClass E = some ce.cls ∧ st.WarmedH t.vm ∧ st.sameButNew ({ t with vm := st.vm } : State) L mc ms ∧ ∀ z ∈ L, free z.base
def vx_Q (Qc : Array Value → State → Outcome → State → Prop) (XC : String → State → State → Prop) (mc ms : Nat) (free : Addr → Prop) : Array Value → State → Outcome → State → Prop := fun a st o t =>
  (Qc a st o t ∧ ∃ L, FrameEnd st o t L mc ms ∧ ∀ q ∈ L, free q.base) ∨ ∃ q, o = .threw q ∧ vx_T XC st q t mc ms free
/-- a callee that returns or throws -/
def vx_Met (l : Launch) (y : MethodName) (ws : List Cond) (rm : Room) (Pc : Array Value → State → Prop) (Qc : Array Value → State → Outcome → State → Prop) (XC : String → State → State → Prop) (mc ms : Nat) (free : Addr → Prop) : Prop :=
  MetFree l y (headSpec ws rm) Pc (fun _ _ _ _ _ => True) (vx_Q Qc XC mc ms free)
def vx_Post (XC : String → State → State → Prop) (mc ms : Nat) (free : Addr → Prop) : Pt → Array Value → Addr → Pt → Prop := fun A a q B =>
  ∃ (g : JFrame) (mk : MethodId) (t : State) (L : List Loc) (E : String) (ce : Cell), B.U.heap = t.heap ∧ B.U.vm = t.vm ∧ XC E (A.U.calling g mk a) t ∧ t.heap[q]? = some ce ∧ ce.vm = .none ∧ A.U.vm.findClass E = some ce.cls ∧ B.locs = A.locs ++ L ∧ (∀ z ∈ L, free z.base) ∧ B.cells = A.cells + mc ∧ B.slots = A.slots + ms
def vx_Back (l : Launch) (R : Room) (p : Program) (e : Env) (below : List Frame) (s : State) (sargs : Array Value) (y : MethodName) (len W9 : Nat)
    (Pre : Pt → Array Value → Prop) (Post : Pt → Array Value → Option Value → Pt → Prop) (PostX : Pt → Array Value → Addr → Pt → Prop) : Prop :=
  ∀ (m : MethodId) (meth : Method) (c : Code) (A : Pt) (g : JFrame) (ig : Instr) (mk : MethodId) (a : Array Value),
    Stand p l e R s m sargs below meth c A.U A.locs A.cells A.slots → g.method = m → g.locals.size = c.maxLocals → decode c.code g.pc = .ok (ig, len) →
    2 * g.monitorRoom + (g.stack.map fun v => v.category).sum ≤ W9 → A.U.methodNamed? y = some mk → Pre A a →
    (∃ (v : Option Value) (B : Pt), Stand p l e R s m sargs below meth c B.U B.locs B.cells B.slots ∧ Post A a v B ∧
      Steps p.tables e below (doInvoke e (A.U.setTop g) [] mk a).1 (B.U.setTop { g with pc := g.pc + len, stack := v.toList ++ g.stack })) ∨
    (∃ (q : Addr) (B : Pt), Stand p l e R s m sargs below meth c B.U B.locs B.cells B.slots ∧ PostX A a q B ∧
      Steps p.tables e below (doInvoke e (A.U.setTop g) [] mk a).1 ((B.U.setTop g).pushFrame (.throwing q)))
section Payer
variable {l : Launch} {R : Room} {p : Program} {e : Env} {below : List Frame} {s : State} {sargs : Array Value} {y : MethodName} {len W9 : Nat}
theorem vx_back {ws : List Cond} {rm : Room} {Pc : Array Value → State → Prop} {Qc : Array Value → State → Outcome → State → Prop} {XC : String → State → State → Prop} {mc ms : Nat} {free : Addr → Prop} {bytes : ByteArray} {maxL : Nat} {ret : Option FieldType}
    (hM : vx_Met l y ws rm Pc Qc XC mc ms free) (hblind : FrameBlind Pc) (hrc : rm.cells = mc) (hrs : rm.slots = ms)
    (hframes : rm.frames + 1 ≤ R.frames) (hlocals : W9 + (maxL + 11) + rm.locals ≤ R.locals)
    (hws : ∀ w ∈ ws, ∀ a' U, s.WarmedH U.vm → w.before a' U = true) (hcode : Cond.code y bytes maxL ret ∈ ws) (hinit : ∀ a' U, s.WarmedH U.vm → (Cond.initialized y.cls).before a' U = true) :
    vx_Back l R p e below s sargs y len W9 (PreOf R mc ms Pc) (PostOf Qc mc ms free) (vx_Post XC mc ms free) := by
  intro m meth c A g ig mk a X hg hsize hdg hW hn hp
  have h1 : (headSpec ws rm).pre.before a A.U = true := atoms_intro fun w hw => hws w hw _ _ X.warmed
  have h2 : (Cond.code y bytes maxL ret).before a A.U = true := hws _ hcode _ _ X.warmed
  have h3 : (Cond.initialized y.cls).before a A.U = true := hinit _ _ X.warmed
  have h4 : A.cells + (headSpec ws rm).room.cells ≤ R.cells := by rw [show (headSpec ws rm).room.cells = mc from hrc]; exact hp.1
  have h5 : A.slots + (headSpec ws rm).room.slots ≤ R.slots := by rw [show (headSpec ws rm).room.slots = ms from hrs]; exact hp.2.1
  have hPc : Pc a (A.U.calling g mk a) := hblind _ _ _ _ hp.2.2
  obtain ⟨U, Ls, c0, s0⟩ := A
  dsimp only [Pt.U, Pt.locs, Pt.cells, Pt.slots] at h1 h2 h3 h4 h5 X hn hPc ⊢
  obtain ⟨methY, cY, hmY, hcY, -, hlY, -, -, -, -⟩ := Cond.code_spec hn h2
  obtain ⟨kY, hkY, -⟩ := className_of_methodNamed hn
  have hinitY : kY.init = .initialized := Cond.initialized_spec (findClass_of_methodNamed hn) hkY h3
  have h : At U g.method c below := by rw [hg]; exact X.here
  have hlocals9 : W9 + (maxL + 11) + (headSpec ws rm).room.locals ≤ R.locals := hlocals
  have happ : (headSpec ws rm).appliesLoose y e.platform (U.calling g mk a) = true :=
    Spec.appliesLoose_calling (g := g) h hdg hn hkY hinitY
      (X.room_calling (g := g) (R' := (headSpec ws rm).room) hsize hmY hcY hframes (by rw [hlY]; omega) h4 h5) h1
  obtain ⟨mid, hmid⟩ := h.above
  have hfr : (U.setTop g).frames = (.java g :: mid) ++ below := by rw [State.frames_setTop' g h.top, hmid]; rfl
  obtain ⟨o, s₂, hsteps, -, hend, hq⟩ := Steps.callFree hM p X.admits X.cas X.clock (acts := []) hfr happ hPc trivial
  have hq' : vx_Q Qc XC mc ms free a (U.calling g mk a) o s₂ := hq
  rw [State.frames_setTop' g h.top] at hend
  obtain ⟨g₀, hg0⟩ := Option.isSome_iff_exists.mp h.top
  obtain ⟨r, hr⟩ := State.topJava?_eq_some.mp hg0
  have hr' : (({ U with heap := s₂.heap, slotsUsed := s₂.slotsUsed } : State).setVm s₂.vm).frames = .java g₀ :: r := hr
  rcases hq' with ⟨hqc, L, hfe, hL⟩ | ⟨q, rfl, E, ce, L, hx, hce, hcv, hcl, hW₂, hsm, hL⟩
  · obtain ⟨⟨v, rfl⟩, hW₂, e2, q2, q3, q4, q5, q6⟩ := id hfe
    have e3 : s₂ = ({ (U.calling g mk a).setFrames s₂.frames with heap := s₂.heap, slotsUsed := s₂.slotsUsed } : State).setVm s₂.vm := by
      have : s₂ = ({ s₂ with vm := (U.calling g mk a).vm } : State).setVm s₂.vm := rfl
      rw [e2] at this
      exact this
    obtain ⟨c₂, i₂, len₂, hc₂, hd₂, hf₂⟩ := hend
    have hW' : U.WarmedH s₂.vm := hW₂
    have hcc : c₂ = c := by
      have h1 : s₂.code? g.method = U.code? g.method := by
        rw [State.code?_eq, State.code?_eq, hW'.alike.method?]
      exact Option.some.inj (hc₂.symm.trans (h1.trans h.code))
    subst hcc
    have hlen : len₂ = len := by rw [hdg] at hd₂; cases hd₂; rfl
    subst hlen
    have hs₂ : s₂ = (({ U with heap := s₂.heap, slotsUsed := s₂.slotsUsed } : State).setVm s₂.vm).setTop { g with pc := g.pc + len₂, stack := v.toList ++ g.stack } := by
      refine e3.trans ?_
      rw [hf₂, State.calling_eq h.top, State.setFrames_setFrames, State.setTop_of_frames _ hr', hr]
      rfl
    have hsame : U.sameButNew ({ U with heap := s₂.heap, slotsUsed := s₂.slotsUsed } : State) L mc ms := by
      refine ⟨?_, q2, q3, q4, q5, q6⟩
      obtain ⟨t, ht, -⟩ := State.frames_cons hr
      show ({ U with heap := s₂.heap, slotsUsed := s₂.slotsUsed } : State) = { U.setFrames U.frames with heap := s₂.heap, slotsUsed := s₂.slotsUsed }
      rw [State.setFrames_self ht]
    subst hg
    refine Or.inl ⟨v, ⟨(({ U with heap := s₂.heap, slotsUsed := s₂.slotsUsed } : State).setVm s₂.vm), Ls ++ L, c0 + mc, s0 + ms⟩,
      ⟨X.admits, X.cas, X.clock, X.frames, X.room, X.hears, X.method, X.code, (X.here.setHeapUsed s₂.heap s₂.slotsUsed).setVm hW'.alike, X.tail, State.WarmedH.trans X.warmed hW', X.limits, X.bytes, X.same.trans (hsame.setVm s.vm)⟩,
      ⟨g, mk, s₂, L, rfl, rfl, hqc, rfl, hL, rfl, rfl⟩, ?_⟩
    show Steps p.tables e below _ ((({ U with heap := s₂.heap, slotsUsed := s₂.slotsUsed } : State).setVm s₂.vm).setTop { g with pc := g.pc + len₂, stack := v.toList ++ g.stack })
    rw [← hs₂]
    exact hsteps
  · obtain ⟨e2, q2, q3, q4, q5, q6⟩ := id hsm
    have e3 : s₂ = ({ (U.calling g mk a).setFrames s₂.frames with heap := s₂.heap, slotsUsed := s₂.slotsUsed } : State).setVm s₂.vm := by
      have : s₂ = ({ s₂ with vm := (U.calling g mk a).vm } : State).setVm s₂.vm := rfl
      rw [e2] at this
      exact this
    have hf₂ : s₂.frames = .throwing q :: .java g :: U.frames.tail := hend
    have hW' : U.WarmedH s₂.vm := hW₂
    have hs₂ : s₂ = ((({ U with heap := s₂.heap, slotsUsed := s₂.slotsUsed } : State).setVm s₂.vm).setTop g).pushFrame (.throwing q) := by
      refine e3.trans ?_
      rw [hf₂, State.calling_eq h.top, State.setFrames_setFrames, State.pushFrame, State.frames_setTop _ hr', State.setTop_of_frames _ hr', State.setFrames_setFrames, hr]
      rfl
    have hsame : U.sameButNew ({ U with heap := s₂.heap, slotsUsed := s₂.slotsUsed } : State) L mc ms := by
      refine ⟨?_, q2, q3, q4, q5, q6⟩
      obtain ⟨t, ht, -⟩ := State.frames_cons hr
      show ({ U with heap := s₂.heap, slotsUsed := s₂.slotsUsed } : State) = { U.setFrames U.frames with heap := s₂.heap, slotsUsed := s₂.slotsUsed }
      rw [State.setFrames_self ht]
    subst hg
    refine Or.inr ⟨q, ⟨(({ U with heap := s₂.heap, slotsUsed := s₂.slotsUsed } : State).setVm s₂.vm), Ls ++ L, c0 + mc, s0 + ms⟩,
      ⟨X.admits, X.cas, X.clock, X.frames, X.room, X.hears, X.method, X.code, (X.here.setHeapUsed s₂.heap s₂.slotsUsed).setVm hW'.alike, X.tail, State.WarmedH.trans X.warmed hW', X.limits, X.bytes, X.same.trans (hsame.setVm s.vm)⟩,
      ⟨g, mk, s₂, L, E, ce, rfl, rfl, hx, hce, hcv, hcl, rfl, hL, rfl, rfl⟩, ?_⟩
    show Steps p.tables e below _ (((({ U with heap := s₂.heap, slotsUsed := s₂.slotsUsed } : State).setVm s₂.vm).setTop g).pushFrame (.throwing q))
    rw [← hs₂]
    exact hsteps
end Payer
section Calls
variable {p : Program} {l : Launch} {e : Env} {R : Room} {s : State} {m : MethodId} {args : Array Value} {below : List Frame} {meth : Method} {c : Code} {T : State} {locs : List Loc} {cells slots : Nat}
theorem vx_callV (X : Stand p l e R s m args below meth c T locs cells slots) (hexec : p.tables.exec = Jvm.exec) {own C : String} {index : Nat} {y : MethodName} {bytes : ByteArray} {maxL : Nat} {ret : Option FieldType}
    (hown : s.vm.findClass own = some m.cls) (hlink : (Cond.methodLink own index y).before args s = true) (hinst : (Cond.instanceMethod y).before args s = true) (hsel : (Cond.selects C y y).before args s = true)
    (hcode : (Cond.code y bytes maxL ret).before args s = true) (hy : y.cls ≠ "java/lang/invoke/MethodHandle" ∧ y.cls ≠ "java/lang/invoke/VarHandle")
    {W9 : Nat} {Pre : Pt → Array Value → Prop} {Post : Pt → Array Value → Option Value → Pt → Prop} {PostX : Pt → Array Value → Addr → Pt → Prop} (hK : vx_Back l R p e below s args y 3 W9 Pre Post PostX)
    {b : Addr} {cellB : Cell} (hcell : T.heap[b]? = some cellB) (hobj : cellB.vm.isStatics = false) (hcls : s.vm.findClass C = some cellB.cls)
    {g : JFrame} (hg : g.method = m) (hsize : g.locals.size = c.maxLocals) {argsL rest : List Value} (hlen : ∀ sig, parseMethodDescriptor y.desc = some sig → argsL.length = sig.parameters.length)
    (hstack : g.stack = argsL.reverse ++ .ref b :: rest) (hW : 2 * g.monitorRoom + (rest.map fun v => v.category).sum ≤ W9) (hdg : decode c.code g.pc = .ok (.invokevirtual index, 3))
    (hpre : ∀ vm₁, s.WarmedH vm₁ → Pre ⟨T.setVm vm₁, locs, cells, slots⟩ (Value.ref b :: argsL).toArray) :
    (∃ (v : Option Value) (vm₁ : Vm) (B : Pt), s.WarmedH vm₁ ∧ Stand p l e R s m args below meth c B.U B.locs B.cells B.slots ∧ Post ⟨T.setVm vm₁, locs, cells, slots⟩ (Value.ref b :: argsL).toArray v B ∧
      ∀ target, Steps p.tables e below (B.U.setTop { g with pc := g.pc + 3, stack := v.toList ++ rest }) target → Steps p.tables e below (T.setTop g) target) ∨
    (∃ (q : Addr) (vm₁ : Vm) (B : Pt), s.WarmedH vm₁ ∧ Stand p l e R s m args below meth c B.U B.locs B.cells B.slots ∧ PostX ⟨T.setVm vm₁, locs, cells, slots⟩ (Value.ref b :: argsL).toArray q B ∧
      Steps p.tables e below (T.setTop g) ((B.U.setTop { g with stack := rest }).pushFrame (.throwing q))) := by
  obtain ⟨mk, methM, hnamed, hmethM, hstM, habM⟩ := Cond.instanceMethod_spec hinst
  obtain ⟨methM', cM, hmethM', -, -, -, -, -, -, hsigM⟩ := Cond.code_spec hnamed hcode
  cases hmethM.symm.trans hmethM'
  obtain ⟨c2, r2, m2, q1, q2, q3, q4, kP, hkP, hkPi⟩ := Cond.selects_spec hsel
  cases hcls.symm.trans q1
  cases (State.methodFound?_of_named hnamed hy).symm.trans q2
  cases hnamed.symm.trans q3
  have hselP : selectMethod e.platform s.vm cellB.cls mk = .method mk := by rw [Launch.admits_selectMethod X.admits]; exact q4
  obtain ⟨vm₁, X₁, hstep₁⟩ := X.invokevirtual hexec hown hlink hnamed hmethM hstM hkP hkPi hy (a := b) (cell := cellB) hcell
    (fun z h => by rw [h] at hobj; cases hobj) hselP hmethM habM hkP hkPi (g := g) hg (argsL := argsL) (rest := rest) (hlen _ hsigM) hstack hdg
  rcases hK m meth c ⟨T.setVm vm₁, locs, cells, slots⟩ { g with stack := rest } (.invokevirtual index) mk (Value.ref b :: argsL).toArray X₁ hg hsize hdg hW (X₁.named hnamed) (hpre vm₁ X₁.warmed) with ⟨v, B, X', hpost, hsteps⟩ | ⟨q, B, X', hpost, hsteps⟩
  · exact Or.inl ⟨v, vm₁, B, X₁.warmed, X', hpost, fun target h => hstep₁ _ fun acts => by rw [doInvoke_state]; exact hsteps.trans h⟩
  · exact Or.inr ⟨q, vm₁, B, X₁.warmed, X', hpost, hstep₁ _ fun acts => by rw [doInvoke_state]; exact hsteps⟩
theorem vx_callS (X : Stand p l e R s m args below meth c T locs cells slots) (hexec : p.tables.exec = Jvm.exec) {own : String} {index : Nat} {y : MethodName} {bytes : ByteArray} {maxL : Nat} {ret : Option FieldType}
    (hown : s.vm.findClass own = some m.cls) (hlink : (Cond.methodLink own index y).before args s = true) (hstat : (Cond.static y).before args s = true) (hinit : (Cond.initialized y.cls).before args s = true)
    (hcode : (Cond.code y bytes maxL ret).before args s = true) (hy : y.cls ≠ "java/lang/invoke/MethodHandle" ∧ y.cls ≠ "java/lang/invoke/VarHandle")
    {W9 : Nat} {Pre : Pt → Array Value → Prop} {Post : Pt → Array Value → Option Value → Pt → Prop} {PostX : Pt → Array Value → Addr → Pt → Prop} (hK : vx_Back l R p e below s args y 3 W9 Pre Post PostX)
    {g : JFrame} (hg : g.method = m) (hsize : g.locals.size = c.maxLocals) {argsL rest : List Value} (hlen : ∀ sig, parseMethodDescriptor y.desc = some sig → argsL.length = sig.parameters.length)
    (hstack : g.stack = argsL.reverse ++ rest) (hW : 2 * g.monitorRoom + (rest.map fun v => v.category).sum ≤ W9) (hdg : decode c.code g.pc = .ok (.invokestatic index, 3))
    (hpre : ∀ vm₁, s.WarmedH vm₁ → Pre ⟨T.setVm vm₁, locs, cells, slots⟩ argsL.toArray) :
    (∃ (v : Option Value) (vm₁ : Vm) (B : Pt), s.WarmedH vm₁ ∧ Stand p l e R s m args below meth c B.U B.locs B.cells B.slots ∧ Post ⟨T.setVm vm₁, locs, cells, slots⟩ argsL.toArray v B ∧
      ∀ target, Steps p.tables e below (B.U.setTop { g with pc := g.pc + 3, stack := v.toList ++ rest }) target → Steps p.tables e below (T.setTop g) target) ∨
    (∃ (q : Addr) (vm₁ : Vm) (B : Pt), s.WarmedH vm₁ ∧ Stand p l e R s m args below meth c B.U B.locs B.cells B.slots ∧ PostX ⟨T.setVm vm₁, locs, cells, slots⟩ argsL.toArray q B ∧
      Steps p.tables e below (T.setTop g) ((B.U.setTop { g with stack := rest }).pushFrame (.throwing q))) := by
  obtain ⟨mk, hnamed⟩ := Cond.code_named hcode
  obtain ⟨methM, cM, hmethM, -, -, -, -, -, -, hsigM⟩ := Cond.code_spec hnamed hcode
  have hstatic : methM.isStatic = true := Cond.static_spec hnamed hmethM hstat
  obtain ⟨kP, hkP, -⟩ := className_of_methodNamed hnamed
  have hinitP : kP.init = .initialized := Cond.initialized_spec (findClass_of_methodNamed hnamed) hkP hinit
  obtain ⟨vm₁, X₁, hstep₁⟩ := X.invokestatic hexec hown hlink hnamed hmethM hstatic hkP hinitP hy (g := g) hg (argsL := argsL) (rest := rest) (hlen _ hsigM) hstack hdg
  rcases hK m meth c ⟨T.setVm vm₁, locs, cells, slots⟩ { g with stack := rest } (.invokestatic index) mk argsL.toArray X₁ hg hsize hdg hW (X₁.named hnamed) (hpre vm₁ X₁.warmed) with ⟨v, B, X', hpost, hsteps⟩ | ⟨q, B, X', hpost, hsteps⟩
  · exact Or.inl ⟨v, vm₁, B, X₁.warmed, X', hpost, fun target h => hstep₁ _ fun acts => by rw [doInvoke_state]; exact hsteps.trans h⟩
  · exact Or.inr ⟨q, vm₁, B, X₁.warmed, X', hpost, hstep₁ _ fun acts => by rw [doInvoke_state]; exact hsteps⟩
end Calls
theorem vx_cls {s : State} {T : State} {vm₁ : Vm} {E : String} {k : ClassId} (hW : s.WarmedH vm₁) (h : (T.setVm vm₁).vm.findClass E = some k) : s.vm.findClass E = some k := by
  have h1 : vm₁.findClass E = some k := h
  rw [hW.alike.findClass] at h1
  exact h1
/-- the method's frame g, with q thrown over it -/
def vx_W (p : Program) (l : Launch) (e : Env) (R : Room) (s : State) (m : MethodId) (args : Array Value) (below : List Frame) (meth : Method) (c : Code) (H : Heap) (locs : List Loc) (cells slots : Nat) (Q : State → Prop) (g : JFrame) (q : Addr) : Prop :=
  ∀ T : State, T.heap = H → Stand p l e R s m args below meth c T locs cells slots → ∃ t, Steps p.tables e below ((T.setTop g).pushFrame (.throwing q)) t ∧ Q t
def vx_Run (p : Program) (l : Launch) (e : Env) (R : Room) (s : State) (m : MethodId) (args : Array Value) (below : List Frame) (meth : Method) (c : Code) (H : Heap) (locs : List Loc) (cells slots mc ms : Nat) (g : JFrame) (rest : List Value) (Qa : State → Outcome → State → Prop) (XC : String → State → State → Prop) (free : Addr → Prop) : Prop :=
  ∀ T : State, T.heap = H → Stand p l e R s m args below meth c T locs cells slots →
    (∃ (v : Option Value) (st₀ t T' : State) (L : List Loc), st₀.heap = H ∧ Stand p l e R s m args below meth c T' (locs ++ L) (cells + mc) (slots + ms) ∧ (∀ q ∈ L, free q.base) ∧ T'.heap = t.heap ∧ T'.vm = t.vm ∧ Qa st₀ (.returned v) t ∧
      Goes p e below T g T' { g with pc := g.pc + 3, stack := v.toList ++ rest }) ∨
    (∃ (q : Addr) (st₀ t T' : State) (L : List Loc) (E : String) (ce : Cell), st₀.heap = H ∧ Stand p l e R s m args below meth c T' (locs ++ L) (cells + mc) (slots + ms) ∧ (∀ z ∈ L, free z.base) ∧ T'.heap = t.heap ∧ T'.vm = t.vm ∧ XC E st₀ t ∧ t.heap[q]? = some ce ∧ ce.vm = .none ∧ s.vm.findClass E = some ce.cls ∧
      Steps p.tables e below (T.setTop g) ((T'.setTop { g with stack := rest }).pushFrame (.throwing q)))
def vx_X {S : Type} (px : S → Prop) (B : String → S → State → Prop) (A : Nat → Prop) : String → State → State → Prop := fun E st t => ∃ u : S, px u ∧ B E u t ∧ va_F A st t
section Runs
variable {p : Program} {l : Launch} {e : Env} {R : Room} {s : State} {m : MethodId} {args : Array Value} {below : List Frame} {meth : Method} {c : Code} {H : Heap} {locs : List Loc} {cells slots : Nat}
variable {y : MethodName} {bytes cc : ByteArray} {maxL nL mc ms n index : Nat} {ret : Option FieldType} {ws : List Cond} {rm : Room} {Pc : Array Value → State → Prop} {Qc : Array Value → State → Outcome → State → Prop} {XC : String → State → State → Prop} {free : Addr → Prop} {Ts : List Cond} {own C : String} {b : Addr} {As rest : List Value} {g : JFrame}
theorem vx_callBack (cb : CallB R s args own index y bytes maxL ret ws rm mc ms n) (hM : vx_Met l y ws rm Pc Qc XC mc ms free) (hbl : FrameBlind Pc) : vx_Back l R p e below s args y 3 8 (PreOf R mc ms Pc) (PostOf Qc mc ms free) (vx_Post XC mc ms free) := by
  obtain ⟨hrc, hrs, hfr, hlo, hws, hcw, -, hini, -⟩ := cb
  exact vx_back (bytes := bytes) (maxL := maxL) (ret := ret) hM hbl hrc hrs hfr hlo hws hcw (fun a' U hW => word_at hW (Or.inl (by first | rfl | simp [Cond.onTables, Cond.keeps, Cond.steady])) hini)
theorem vx_runV (S : CallFix p m c cc nL s args Ts own) (hM : vx_Met l y ws rm Pc Qc XC mc ms free) (cw : CallW R s args own C index y bytes maxL ret ws rm mc ms n) (hp : PreV s H C b Pc As)
    (hg : g.method = m) (hn : As.length = n) (hsize : g.locals.size = nL) (hstack : g.stack = As.reverse ++ .ref b :: rest) (hW : 2 * g.monitorRoom + (rest.map fun v => v.category).sum ≤ 8) (hdg : decode cc g.pc = .ok (.invokevirtual index, 3)) (hf : cells + mc ≤ R.cells ∧ slots + ms ≤ R.slots) :
    vx_Run p l e R s m args below meth c H locs cells slots mc ms g rest (Qc (Value.ref b :: As).toArray) XC free := by
  have hK : vx_Back l R p e below s args y 3 8 (PreOf R mc ms Pc) (PostOf Qc mc ms free) (vx_Post XC mc ms free) := vx_callBack cw.1 hM hp.1
  obtain ⟨⟨-, -, -, -, -, -, hcode, -, hy, hlen, hl⟩, hin, hse⟩ := cw
  obtain ⟨hx, hb, hml, ho, -⟩ := S
  obtain ⟨-, ⟨cellB, hcB, hoB, hclB⟩, hPc⟩ := hp
  intro T hT X
  rcases vx_callV X hx (C := C) (bytes := bytes) (maxL := maxL) (ret := ret) ho hl hin hse hcode hy hK (by rw [hT]; exact hcB) hoB hclB hg (hsize.trans hml.symm) (argsL := As) (rest := rest) (fun sig h => hn.trans (hlen sig h)) hstack hW (by rw [hb]; exact hdg)
    (fun vm₁ hW₁ => ⟨hf.1, hf.2, hPc (T.setVm vm₁) hT hW₁⟩) with ⟨v, vm₁, ⟨U', l2, c2, s2⟩, hW₁, X', ⟨g', mk, t, L, e1, e2, hq, h1, hL, h2, h3⟩, st⟩ | ⟨q, vm₁, ⟨U', l2, c2, s2⟩, hW₁, X', ⟨g', mk, t, L, E, ce, e1, e2, hq, hce, hcv, hcl, h1, hL, h2, h3⟩, st⟩
  · dsimp only [Pt.U, Pt.locs, Pt.cells, Pt.slots] at X' e1 e2 h1 h2 h3 st
    subst h1; subst h2; subst h3
    exact Or.inl ⟨v, (T.setVm vm₁).calling g' mk (Value.ref b :: As).toArray, t, U', L, hT, X', hL, e1, e2, hq, st⟩
  · dsimp only [Pt.U, Pt.locs, Pt.cells, Pt.slots] at X' e1 e2 h1 h2 h3 st hcl
    subst h1; subst h2; subst h3
    exact Or.inr ⟨q, (T.setVm vm₁).calling g' mk (Value.ref b :: As).toArray, t, U', L, E, ce, hT, X', hL, e1, e2, hq, hce, hcv, vx_cls hW₁ hcl, st⟩
theorem vx_runS (S : CallFix p m c cc nL s args Ts own) (hM : vx_Met l y ws rm Pc Qc XC mc ms free) (cw : CallB R s args own index y bytes maxL ret ws rm mc ms n ∧ (Cond.static y).before args s = true) (hp : PreS s H Pc As)
    (hg : g.method = m) (hn : As.length = n) (hsize : g.locals.size = nL) (hstack : g.stack = As.reverse ++ rest) (hW : 2 * g.monitorRoom + (rest.map fun v => v.category).sum ≤ 8) (hdg : decode cc g.pc = .ok (.invokestatic index, 3)) (hf : cells + mc ≤ R.cells ∧ slots + ms ≤ R.slots) :
    vx_Run p l e R s m args below meth c H locs cells slots mc ms g rest (Qc As.toArray) XC free := by
  have hK : vx_Back l R p e below s args y 3 8 (PreOf R mc ms Pc) (PostOf Qc mc ms free) (vx_Post XC mc ms free) := vx_callBack cw.1 hM hp.1
  obtain ⟨⟨-, -, -, -, -, -, hcode, hini, hy, hlen, hl⟩, hstt⟩ := cw
  obtain ⟨hx, hb, hml, ho, -⟩ := S
  intro T hT X
  rcases vx_callS X hx (bytes := bytes) (maxL := maxL) (ret := ret) ho hl hstt hini hcode hy hK hg (hsize.trans hml.symm) (argsL := As) (rest := rest) (fun sig h => hn.trans (hlen sig h)) hstack hW (by rw [hb]; exact hdg)
    (fun vm₁ hW₁ => ⟨hf.1, hf.2, hp.2 (T.setVm vm₁) hT hW₁⟩) with ⟨v, vm₁, ⟨U', l2, c2, s2⟩, hW₁, X', ⟨g', mk, t, L, e1, e2, hq, h1, hL, h2, h3⟩, st⟩ | ⟨q, vm₁, ⟨U', l2, c2, s2⟩, hW₁, X', ⟨g', mk, t, L, E, ce, e1, e2, hq, hce, hcv, hcl, h1, hL, h2, h3⟩, st⟩
  · dsimp only [Pt.U, Pt.locs, Pt.cells, Pt.slots] at X' e1 e2 h1 h2 h3 st
    subst h1; subst h2; subst h3
    exact Or.inl ⟨v, (T.setVm vm₁).calling g' mk As.toArray, t, U', L, hT, X', hL, e1, e2, hq, st⟩
  · dsimp only [Pt.U, Pt.locs, Pt.cells, Pt.slots] at X' e1 e2 h1 h2 h3 st hcl
    subst h1; subst h2; subst h3
    exact Or.inr ⟨q, (T.setVm vm₁).calling g' mk As.toArray, t, U', L, E, ce, hT, X', hL, e1, e2, hq, hce, hcv, vx_cls hW₁ hcl, st⟩
end Runs
section Rows
variable {p : Program} {l : Launch} {e : Env} {R : Room} {s : State} {m : MethodId} {args : Array Value} {below : List Frame} {meth : Method} {c : Code} {H : Heap} {locs : List Loc} {cells slots : Nat} {Q : State → Prop}
variable {mc ms : Nat} {free : Addr → Prop} {A0 A1 : Nat → Prop} {H0 : Heap} {a : Array Value} {pc : Nat} {ls : Array Slot} {st0 rest : List Value}
theorem vx_keep {st₀ t T' : State} {L : List Loc} (h0 : st₀.heap = H) (e1 : T'.heap = t.heap) (hS : va_S A0 H0 H locs) (hA : ∀ q, q < H.size → A1 q → A0 q) (hf : ∀ q, free q → A0 q) (hL : ∀ q ∈ L, free q.base) (hF : va_F A1 st₀ t) :
    H.size ≤ T'.heap.size ∧ (∀ q : Nat, q < H.size → ¬ A1 q → T'.heap[q]? = H[q]?) ∧ va_S A0 H0 T'.heap (locs ++ L) := by
  obtain ⟨hz, hk⟩ := hF
  rw [h0] at hz hk
  exact ⟨by rw [e1]; exact hz, fun q h1 h2 => by rw [e1]; exact hk q h1 h2,
    ⟨Nat.le_trans hS.1 (by rw [e1]; exact hz), fun q h1 h2 => by rw [e1, hk q (Nat.lt_of_lt_of_le h1 hS.1) (fun z => h2 (hA q (Nat.lt_of_lt_of_le h1 hS.1) z))]; exact hS.2.1 q h1 h2, fun q hq => by
      rcases List.mem_append.mp hq with h | h
      · exact hS.2.2 q h
      · exact hf _ (hL q h)⟩⟩
theorem vx_calli {S SX : Type} {post : Int32 → S → Prop} {px : SX → Prop} {B : S → State → Prop} {BX : String → SX → State → Prop} {AX : Nat → Prop} (hr : vx_Run p l e R s m args below meth c H locs cells slots mc ms (F0 m pc ls st0) rest (va_Qi post B A1 a) (vx_X px BX AX) free) (hS : va_S A0 H0 H locs) (hA : ∀ q, q < H.size → A1 q → A0 q) (hf : ∀ q, free q → A0 q) (hAX : ∀ q, q < H.size → AX q → A0 q)
    (kx : ∀ (E : String) (ce : Cell) (q9 : Addr) (u : SX) (t : State) (H1 : Heap) (locs1 : List Loc), t.heap = H1 → s.vm.Alike t.vm → px u → BX E u t → H.size ≤ H1.size → (∀ q : Nat, q < H.size → ¬ AX q → H1[q]? = H[q]?) → va_S A0 H0 H1 locs1 → H1[q9]? = some ce → ce.vm = .none → s.vm.findClass E = some ce.cls → vx_W p l e R s m args below meth c H1 locs1 (cells + mc) (slots + ms) Q (F0 m pc ls rest) q9)
    (kk : ∀ (r : Int32) (u : S) (t : State) (H1 : Heap) (locs1 : List Loc), t.heap = H1 → s.vm.Alike t.vm → post r u → B u t → H.size ≤ H1.size → (∀ q : Nat, q < H.size → ¬ A1 q → H1[q]? = H[q]?) → va_S A0 H0 H1 locs1 → W p l e R s m args below meth c H1 locs1 (cells + mc) (slots + ms) Q (F0 m (pc + 3) ls (.int r :: rest))) : W p l e R s m args below meth c H locs cells slots Q (F0 m pc ls st0) := by
  intro T hT X
  rcases hr T hT X with ⟨v, st₀, t, T', L, h0, X', hL, e1, e2, ⟨⟨r, u, hv, hp, hb⟩, hF⟩, st⟩ | ⟨q, st₀, t, T', L, E, ce, h0, X', hL, e1, e2, ⟨u, hp, hb, hF⟩, hce, hcv, hcl, st⟩
  · cases hv
    obtain ⟨k1, k2, k3⟩ := vx_keep h0 e1 hS hA hf hL hF
    obtain ⟨t2, a1, b1⟩ := kk r u t T'.heap (locs ++ L) e1.symm (by rw [← e2]; exact X'.warmed.alike) hp hb k1 k2 k3 T' rfl X'
    exact ⟨t2, st t2 a1, b1⟩
  · obtain ⟨k1, k2, k3⟩ := vx_keep h0 e1 hS hAX hf hL hF
    obtain ⟨t2, a1, b1⟩ := kx E ce q u t T'.heap (locs ++ L) e1.symm (by rw [← e2]; exact X'.warmed.alike) hp hb k1 k2 k3 (by rw [e1]; exact hce) hcv hcl T' rfl X'
    exact ⟨t2, st.trans a1, b1⟩
theorem vx_calll {S SX : Type} {post : Int64 → S → Prop} {px : SX → Prop} {B : S → State → Prop} {BX : String → SX → State → Prop} {AX : Nat → Prop} (hr : vx_Run p l e R s m args below meth c H locs cells slots mc ms (F0 m pc ls st0) rest (va_Ql post B A1 a) (vx_X px BX AX) free) (hS : va_S A0 H0 H locs) (hA : ∀ q, q < H.size → A1 q → A0 q) (hf : ∀ q, free q → A0 q) (hAX : ∀ q, q < H.size → AX q → A0 q)
    (kx : ∀ (E : String) (ce : Cell) (q9 : Addr) (u : SX) (t : State) (H1 : Heap) (locs1 : List Loc), t.heap = H1 → s.vm.Alike t.vm → px u → BX E u t → H.size ≤ H1.size → (∀ q : Nat, q < H.size → ¬ AX q → H1[q]? = H[q]?) → va_S A0 H0 H1 locs1 → H1[q9]? = some ce → ce.vm = .none → s.vm.findClass E = some ce.cls → vx_W p l e R s m args below meth c H1 locs1 (cells + mc) (slots + ms) Q (F0 m pc ls rest) q9)
    (kk : ∀ (r : Int64) (u : S) (t : State) (H1 : Heap) (locs1 : List Loc), t.heap = H1 → s.vm.Alike t.vm → post r u → B u t → H.size ≤ H1.size → (∀ q : Nat, q < H.size → ¬ A1 q → H1[q]? = H[q]?) → va_S A0 H0 H1 locs1 → W p l e R s m args below meth c H1 locs1 (cells + mc) (slots + ms) Q (F0 m (pc + 3) ls (.long r :: rest))) : W p l e R s m args below meth c H locs cells slots Q (F0 m pc ls st0) := by
  intro T hT X
  rcases hr T hT X with ⟨v, st₀, t, T', L, h0, X', hL, e1, e2, ⟨⟨r, u, hv, hp, hb⟩, hF⟩, st⟩ | ⟨q, st₀, t, T', L, E, ce, h0, X', hL, e1, e2, ⟨u, hp, hb, hF⟩, hce, hcv, hcl, st⟩
  · cases hv
    obtain ⟨k1, k2, k3⟩ := vx_keep h0 e1 hS hA hf hL hF
    obtain ⟨t2, a1, b1⟩ := kk r u t T'.heap (locs ++ L) e1.symm (by rw [← e2]; exact X'.warmed.alike) hp hb k1 k2 k3 T' rfl X'
    exact ⟨t2, st t2 a1, b1⟩
  · obtain ⟨k1, k2, k3⟩ := vx_keep h0 e1 hS hAX hf hL hF
    obtain ⟨t2, a1, b1⟩ := kx E ce q u t T'.heap (locs ++ L) e1.symm (by rw [← e2]; exact X'.warmed.alike) hp hb k1 k2 k3 (by rw [e1]; exact hce) hcv hcl T' rfl X'
    exact ⟨t2, st.trans a1, b1⟩
theorem vx_callf {S SX : Type} {post : UInt32 → S → Prop} {px : SX → Prop} {B : S → State → Prop} {BX : String → SX → State → Prop} {AX : Nat → Prop} (hr : vx_Run p l e R s m args below meth c H locs cells slots mc ms (F0 m pc ls st0) rest (va_Qf post B A1 a) (vx_X px BX AX) free) (hS : va_S A0 H0 H locs) (hA : ∀ q, q < H.size → A1 q → A0 q) (hf : ∀ q, free q → A0 q) (hAX : ∀ q, q < H.size → AX q → A0 q)
    (kx : ∀ (E : String) (ce : Cell) (q9 : Addr) (u : SX) (t : State) (H1 : Heap) (locs1 : List Loc), t.heap = H1 → s.vm.Alike t.vm → px u → BX E u t → H.size ≤ H1.size → (∀ q : Nat, q < H.size → ¬ AX q → H1[q]? = H[q]?) → va_S A0 H0 H1 locs1 → H1[q9]? = some ce → ce.vm = .none → s.vm.findClass E = some ce.cls → vx_W p l e R s m args below meth c H1 locs1 (cells + mc) (slots + ms) Q (F0 m pc ls rest) q9)
    (kk : ∀ (r : UInt32) (u : S) (t : State) (H1 : Heap) (locs1 : List Loc), t.heap = H1 → s.vm.Alike t.vm → post r u → B u t → H.size ≤ H1.size → (∀ q : Nat, q < H.size → ¬ A1 q → H1[q]? = H[q]?) → va_S A0 H0 H1 locs1 → W p l e R s m args below meth c H1 locs1 (cells + mc) (slots + ms) Q (F0 m (pc + 3) ls (.float r :: rest))) : W p l e R s m args below meth c H locs cells slots Q (F0 m pc ls st0) := by
  intro T hT X
  rcases hr T hT X with ⟨v, st₀, t, T', L, h0, X', hL, e1, e2, ⟨⟨r, u, hv, hp, hb⟩, hF⟩, st⟩ | ⟨q, st₀, t, T', L, E, ce, h0, X', hL, e1, e2, ⟨u, hp, hb, hF⟩, hce, hcv, hcl, st⟩
  · cases hv
    obtain ⟨k1, k2, k3⟩ := vx_keep h0 e1 hS hA hf hL hF
    obtain ⟨t2, a1, b1⟩ := kk r u t T'.heap (locs ++ L) e1.symm (by rw [← e2]; exact X'.warmed.alike) hp hb k1 k2 k3 T' rfl X'
    exact ⟨t2, st t2 a1, b1⟩
  · obtain ⟨k1, k2, k3⟩ := vx_keep h0 e1 hS hAX hf hL hF
    obtain ⟨t2, a1, b1⟩ := kx E ce q u t T'.heap (locs ++ L) e1.symm (by rw [← e2]; exact X'.warmed.alike) hp hb k1 k2 k3 (by rw [e1]; exact hce) hcv hcl T' rfl X'
    exact ⟨t2, st.trans a1, b1⟩
theorem vx_calld {S SX : Type} {post : UInt64 → S → Prop} {px : SX → Prop} {B : S → State → Prop} {BX : String → SX → State → Prop} {AX : Nat → Prop} (hr : vx_Run p l e R s m args below meth c H locs cells slots mc ms (F0 m pc ls st0) rest (va_Qd post B A1 a) (vx_X px BX AX) free) (hS : va_S A0 H0 H locs) (hA : ∀ q, q < H.size → A1 q → A0 q) (hf : ∀ q, free q → A0 q) (hAX : ∀ q, q < H.size → AX q → A0 q)
    (kx : ∀ (E : String) (ce : Cell) (q9 : Addr) (u : SX) (t : State) (H1 : Heap) (locs1 : List Loc), t.heap = H1 → s.vm.Alike t.vm → px u → BX E u t → H.size ≤ H1.size → (∀ q : Nat, q < H.size → ¬ AX q → H1[q]? = H[q]?) → va_S A0 H0 H1 locs1 → H1[q9]? = some ce → ce.vm = .none → s.vm.findClass E = some ce.cls → vx_W p l e R s m args below meth c H1 locs1 (cells + mc) (slots + ms) Q (F0 m pc ls rest) q9)
    (kk : ∀ (r : UInt64) (u : S) (t : State) (H1 : Heap) (locs1 : List Loc), t.heap = H1 → s.vm.Alike t.vm → post r u → B u t → H.size ≤ H1.size → (∀ q : Nat, q < H.size → ¬ A1 q → H1[q]? = H[q]?) → va_S A0 H0 H1 locs1 → W p l e R s m args below meth c H1 locs1 (cells + mc) (slots + ms) Q (F0 m (pc + 3) ls (.double r :: rest))) : W p l e R s m args below meth c H locs cells slots Q (F0 m pc ls st0) := by
  intro T hT X
  rcases hr T hT X with ⟨v, st₀, t, T', L, h0, X', hL, e1, e2, ⟨⟨r, u, hv, hp, hb⟩, hF⟩, st⟩ | ⟨q, st₀, t, T', L, E, ce, h0, X', hL, e1, e2, ⟨u, hp, hb, hF⟩, hce, hcv, hcl, st⟩
  · cases hv
    obtain ⟨k1, k2, k3⟩ := vx_keep h0 e1 hS hA hf hL hF
    obtain ⟨t2, a1, b1⟩ := kk r u t T'.heap (locs ++ L) e1.symm (by rw [← e2]; exact X'.warmed.alike) hp hb k1 k2 k3 T' rfl X'
    exact ⟨t2, st t2 a1, b1⟩
  · obtain ⟨k1, k2, k3⟩ := vx_keep h0 e1 hS hAX hf hL hF
    obtain ⟨t2, a1, b1⟩ := kx E ce q u t T'.heap (locs ++ L) e1.symm (by rw [← e2]; exact X'.warmed.alike) hp hb k1 k2 k3 (by rw [e1]; exact hce) hcv hcl T' rfl X'
    exact ⟨t2, st.trans a1, b1⟩
theorem vx_callv {S SX : Type} {post : S → Prop} {px : SX → Prop} {B : S → State → Prop} {BX : String → SX → State → Prop} {AX : Nat → Prop} (hr : vx_Run p l e R s m args below meth c H locs cells slots mc ms (F0 m pc ls st0) rest (va_Qv post B A1 a) (vx_X px BX AX) free) (hS : va_S A0 H0 H locs) (hA : ∀ q, q < H.size → A1 q → A0 q) (hf : ∀ q, free q → A0 q) (hAX : ∀ q, q < H.size → AX q → A0 q)
    (kx : ∀ (E : String) (ce : Cell) (q9 : Addr) (u : SX) (t : State) (H1 : Heap) (locs1 : List Loc), t.heap = H1 → s.vm.Alike t.vm → px u → BX E u t → H.size ≤ H1.size → (∀ q : Nat, q < H.size → ¬ AX q → H1[q]? = H[q]?) → va_S A0 H0 H1 locs1 → H1[q9]? = some ce → ce.vm = .none → s.vm.findClass E = some ce.cls → vx_W p l e R s m args below meth c H1 locs1 (cells + mc) (slots + ms) Q (F0 m pc ls rest) q9)
    (kk : ∀ (u : S) (t : State) (H1 : Heap) (locs1 : List Loc), t.heap = H1 → s.vm.Alike t.vm → post u → B u t → H.size ≤ H1.size → (∀ q : Nat, q < H.size → ¬ A1 q → H1[q]? = H[q]?) → va_S A0 H0 H1 locs1 → W p l e R s m args below meth c H1 locs1 (cells + mc) (slots + ms) Q (F0 m (pc + 3) ls (rest))) : W p l e R s m args below meth c H locs cells slots Q (F0 m pc ls st0) := by
  intro T hT X
  rcases hr T hT X with ⟨v, st₀, t, T', L, h0, X', hL, e1, e2, ⟨⟨u, hv, hp, hb⟩, hF⟩, st⟩ | ⟨q, st₀, t, T', L, E, ce, h0, X', hL, e1, e2, ⟨u, hp, hb, hF⟩, hce, hcv, hcl, st⟩
  · cases hv
    obtain ⟨k1, k2, k3⟩ := vx_keep h0 e1 hS hA hf hL hF
    obtain ⟨t2, a1, b1⟩ := kk u t T'.heap (locs ++ L) e1.symm (by rw [← e2]; exact X'.warmed.alike) hp hb k1 k2 k3 T' rfl X'
    exact ⟨t2, st t2 a1, b1⟩
  · obtain ⟨k1, k2, k3⟩ := vx_keep h0 e1 hS hAX hf hL hF
    obtain ⟨t2, a1, b1⟩ := kx E ce q u t T'.heap (locs ++ L) e1.symm (by rw [← e2]; exact X'.warmed.alike) hp hb k1 k2 k3 (by rw [e1]; exact hce) hcv hcl T' rfl X'
    exact ⟨t2, st.trans a1, b1⟩
/-- caught by the row x of this method's table; the rows ahead don't take it -/
theorem vx_catch {own name : String} {E : String} {ce : Cell} {q : Addr} (hown : s.vm.findClass own = some m.cls) (pre : List ExceptionTableEntry) (x : ExceptionTableEntry) (suf : List ExceptionTableEntry) (hsplit : c.exceptionTable.toList = pre ++ x :: suf)
    (hpass : ∀ z ∈ pre, covers z pc = false ∨ (z.catchType ≠ 0 ∧ ∃ nm : String, (Cond.classLink own z.catchType nm).before args s = true ∧ va_Nc E nm s)) (hx : covers x pc = true) (h0 : x.catchType ≠ 0)
    (hlink : (Cond.classLink own x.catchType name).before args s = true) (hcast : (Cond.castable E name).before args s = true) (hcell : H[q]? = some ce) (hv : ce.vm = .none) (hcl : s.vm.findClass E = some ce.cls)
    (kk : W p l e R s m args below meth c H locs cells slots Q (F0 m x.handlerPc ls [.ref q])) : vx_W p l e R s m args below meth c H locs cells slots Q (F0 m pc ls rest) q := by
  intro T hT X
  have hpl : e.platform.magicAccessors = ({} : Platform).magicAccessors := by rw [X.admits.platform]
  obtain ⟨c3, c4, hc3, hc4, hasg⟩ := Cond.castable_spec hcast
  cases Option.some.inj (hc3.symm.trans hcl)
  obtain ⟨c5, hc5, hcl5⟩ := Cond.classLink_spec hown hlink e.platform hpl
  cases Option.some.inj (hc4.symm.trans hc5)
  obtain ⟨vm', hW', hq⟩ := rh_seek (e := e) (s0 := s) (f := F0 m pc ls rest) (a := q) (cell := ce) (fun j h => by rw [hv] at h; cases h) (by obtain ⟨k9, h9, -⟩ := Vm.findClass_spec hcl; exact ⟨k9, h9⟩) (suf := suf) hx h0 hcl5 hasg pre ((T.setTop (F0 m pc ls rest)).pushFrame (.throwing q)) (by rw [Stand.throwing_vm]; exact X.warmed) (by rw [Stand.throwing_heap, hT]; exact hcell)
    (fun z hz => by
      rcases hpass z hz with h | ⟨hz0, nm, hl1, hn1⟩
      · exact Or.inl h
      · obtain ⟨c6, hc6, hcl6⟩ := Cond.classLink_spec hown hl1 e.platform hpl
        obtain ⟨a8, b8, h1, h2, h3⟩ := hn1
        cases Option.some.inj (h1.symm.trans hcl)
        cases Option.some.inj (h2.symm.trans hc6)
        exact Or.inr ⟨hz0, _, hcl6, h3⟩)
  have X' := X.noted hW'
  have st := rh_land (tb := p.tables) (e := e) (T := T) (g := F0 m pc ls rest) (a := q) (pc := x.handlerPc) (vm1 := vm') (c := c) (below := below) X.here (fun Q E d acts => by rw [Jvm.W.findHandler_eq (meth := meth) (code := c) (by rw [Stand.throwing_vm]; exact X.method') X.code, hsplit]; exact hq Q E d acts)
  obtain ⟨t, a1, b1⟩ := kk (T.setVm vm') hT X'
  exact ⟨t, st.trans a1, b1⟩
end Rows
section Ends
variable {p : Program} {l : Launch} {e : Env} {R : Room} {s : State} {m : MethodId} {args : Array Value} {below : List Frame} {meth : Method} {c : Code} {H : Heap} {locs : List Loc} {cells slots : Nat} {Q : State → Prop}
variable {mc ms : Nat} {free : Addr → Prop} {A0 A1 : Nat → Prop} {H0 : Heap} {a : Array Value} {ls : Array Slot} {st0 rest : List Value}
variable {Qc : Array Value → State → Outcome → State → Prop} {XC : String → State → State → Prop}
/-- what a body that may throw owes at its end -/
def vx_MQ (below : List Frame) (Qc : Array Value → State → Outcome → State → Prop) (XC : String → State → State → Prop) (a : Array Value) (s : State) (mc ms : Nat) (free : Addr → Prop) : State → Prop := fun t =>
  ∃ o, t.status = .running ∧ Ended t below o ∧ vx_Q Qc XC mc ms free a s o t
theorem vx_ret {g : JFrame} {mc ms : Nat} (k : W p l e R s m args below meth c H locs cells slots (MQ below Qc args s mc ms free) g) : W p l e R s m args below meth c H locs cells slots (vx_MQ below Qc XC args s mc ms free) g := by
  intro T hT X
  obtain ⟨t, a1, o, b1, b2, b3, b4⟩ := k T hT X
  exact ⟨t, a1, o, b1, b2, Or.inl ⟨b3, b4⟩⟩
/-- not caught here: it goes on to the caller -/
theorem vx_widen {g : JFrame} {q : Addr} {k n : Nat} (h1 : cells ≤ k) (h2 : slots ≤ n) (kk : vx_W p l e R s m args below meth c H locs k n Q g q) : vx_W p l e R s m args below meth c H locs cells slots Q g q := fun T hT X => kk T hT (stand_widen X h1 h2)
theorem vx_out {pc : Nat} {E : String} {ce : Cell} {q : Addr} {mc ms : Nat} (hout : ∀ x ∈ c.exceptionTable.toList, covers x pc = false) (hlocks : meth.locks = false) (hcell : H[q]? = some ce) (hv : ce.vm = .none) (hcl : s.vm.findClass E = some ce.cls)
    (hx : ∀ t : State, t.heap = H → s.vm.Alike t.vm → XC E s t) (hf : ∀ z ∈ locs, free z.base) (hc : cells ≤ mc) (hs : slots ≤ ms) :
    vx_W p l e R s m args below meth c H locs cells slots (vx_MQ below Qc XC args s mc ms free) (F0 m pc ls rest) q := by
  intro T hT X
  obtain ⟨st1, hrun, hend, hW, hsm⟩ := X.leaveThrown q (g := F0 m pc ls rest) rfl rfl rfl hout hlocks
  have hcell9 : (T.setFrames (.throwing q :: below)).heap[q]? = some ce := by
    show T.heap[q]? = some ce
    rw [hT]; exact hcell
  exact ⟨_, st1, .threw q, hrun, hend, Or.inr ⟨q, rfl, E, ce, locs, hx _ hT hW.alike, hcell9, hv, hcl, hW, hsm.mono hc hs, hf⟩⟩
theorem vx_frame {U : State} {k n : Nat} (h : s.sameButNew ({ U with vm := s.vm } : State) locs k n) : s.heap.size ≤ U.heap.size ∧ ∀ q : Nat, q < s.heap.size → (∀ z ∈ locs, z.base ≠ q) → U.heap[q]? = s.heap[q]? := by
  obtain ⟨-, h2, -, -, -, h6⟩ := h
  refine ⟨h2, fun q hq hz => ?_⟩
  obtain ⟨c9, e1, e2, e3, e4⟩ := h6 q _ (Array.getElem?_eq_getElem hq)
  have hs : c9.slots = (s.heap[q]).slots := Array.ext_getElem? fun i => e4 i fun hm => hz _ hm rfl
  have h9 : c9 = s.heap[q] := by
    rw [hs] at e2
    exact e2
  have e5 : U.heap[q]? = some c9 := e1
  rw [e5, h9, Array.getElem?_eq_getElem hq]
/-- the words of a throw but the four that speak of the heap -/
def vx_no (w : Cond) : Bool := decide (w ≠ .isRef (.static Bundle.tN "UNASSIGNED_STACK" Bundle.steD)) && decide (w ≠ .isRef (.static Bundle.tN "SUPPRESSED_SENTINEL" Bundle.listD)) && decide (w ≠ .laysStatic Bundle.tN "UNASSIGNED_STACK" Bundle.steD) && decide (w ≠ .laysStatic Bundle.tN "SUPPRESSED_SENTINEL" Bundle.listD)
def vx_at0 (own : String) (ic : Nat) (X : String) (names : List String) : List Cond := (Bundle.ownAtoms0 own ic X names).filter vx_no
def vx_atS (own : String) (ic : Nat) (X : String) (names : List String) : List Cond := (Bundle.ownAtoms own ic X names).filter vx_no
/-- a word that the tables alone decide, or a good one -/
def vx_ot (w : Cond) : Bool := w.onTables || goodWord w
theorem vx_ot_at {args a' : Array Value} {s U : State} {w : Cond} (hW : s.WarmedH U.vm) (hvm : s.vm = U.vm) (hg : vx_ot w = true) (h : w.before args s = true) : w.before a' U = true := by
  simp only [vx_ot, Bool.or_eq_true] at hg
  rcases hg with hg | hg
  · exact va_tabs hg hvm h
  · exact word_at hW (good_of_word hg) h
/-- a list's words: the good ones out of the method's own list, the others by premises of their own -/
theorem vx_hat {args : Array Value} {s : State} {L B : List Cond} (h1 : ∀ w ∈ L.filter goodWord, w.before args s = true) (h2 : ∀ w ∈ L.filter (fun w => !goodWord w), w ∈ B) (h3 : ∀ w ∈ B, w.before args s = true) : ∀ w ∈ L, w.before args s = true := by
  intro w hw
  by_cases g : goodWord w = true
  · exact h1 w (List.mem_filter.mpr ⟨hw, g⟩)
  · refine h3 w (h2 w (List.mem_filter.mpr ⟨hw, ?_⟩))
    show (!goodWord w) = true
    cases hgw : goodWord w
    · rfl
    · exact absurd hgw g
theorem vx_c {args : Array Value} {s : State} {w : Cond} {B : List Cond} (h : w.before args s = true) (t : ∀ w ∈ B, w.before args s = true) : ∀ w' ∈ w :: B, w'.before args s = true := fun w' h' => (List.mem_cons.mp h').elim (fun e => by rw [e]; exact h) (t w')
theorem vx_n {args : Array Value} {s : State} : ∀ w ∈ ([] : List Cond), w.before args s = true := fun _ h => nomatch h
theorem vx_own {args : Array Value} {s : State} {L : List Cond} (h1 : ∀ w ∈ L.filter vx_no, w.before args s = true)
    (hU : (Cond.isRef (.static Bundle.tN "UNASSIGNED_STACK" Bundle.steD)).before args s = true) (hN : (Cond.isRef (.static Bundle.tN "SUPPRESSED_SENTINEL" Bundle.listD)).before args s = true)
    (lU : (Cond.laysStatic Bundle.tN "UNASSIGNED_STACK" Bundle.steD).before args s = true) (lN : (Cond.laysStatic Bundle.tN "SUPPRESSED_SENTINEL" Bundle.listD).before args s = true) : ∀ w ∈ L, w.before args s = true := by
  intro w hw
  by_cases e1 : w = .isRef (.static Bundle.tN "UNASSIGNED_STACK" Bundle.steD)
  · rw [e1]; exact hU
  · by_cases e2 : w = .isRef (.static Bundle.tN "SUPPRESSED_SENTINEL" Bundle.listD)
    · rw [e2]; exact hN
    · by_cases e3 : w = .laysStatic Bundle.tN "UNASSIGNED_STACK" Bundle.steD
      · rw [e3]; exact lU
      · by_cases e4 : w = .laysStatic Bundle.tN "SUPPRESSED_SENTINEL" Bundle.listD
        · rw [e4]; exact lN
        · exact h1 w (List.mem_filter.mpr ⟨hw, by unfold vx_no; rw [decide_eq_true e1, decide_eq_true e2, decide_eq_true e3, decide_eq_true e4]; rfl⟩)
/-- where a static field lies, its class's statics cell in H -/
def vx_L (C n d : String) (A : Nat → Prop) (U : State) (H : Heap) : Prop := ∃ (c : ClassId) (k : Class) (i : Nat) (f : Field) (a : Nat) (cell : Cell), U.vm.findClass C = some c ∧ U.fieldFound? C n d = some (c, k, i, f) ∧ f.isStatic = true ∧ k.statics = some a ∧ H[a]? = some cell ∧ cell.vm.isStatics = true ∧ cell.cls = c ∧ f.slot < cell.slots.size ∧ k.staticTypes[f.slot]? = some f.type ∧ ¬ A a
theorem vx_L.moved {C n d : String} {A : Nat → Prop} {u U : State} {H : Heap} (hvm : u.vm.Alike U.vm) (h : vx_L C n d A u H) : vx_L C n d A U H := by
  obtain ⟨c, k, i, f, a, cell, h1, h2, h3, h4, h5, h6, h7, h8, h9, h10⟩ := h
  obtain ⟨k', hi', he⟩ := State.fieldFound?_setVm hvm h2
  exact ⟨c, k', i, f, a, cell, by rw [hvm.findClass]; exact h1, hi', h3, by rw [he]; exact h4, h5, h6, h7, h8, by rw [he]; exact h9, h10⟩
theorem vx_L.kept {C n d : String} {A : Nat → Prop} {U : State} {H H1 : Heap} (h : vx_L C n d A U H) (hq : ∀ a : Nat, a < H.size → ¬ A a → H1[a]? = H[a]?) : vx_L C n d A U H1 := by
  obtain ⟨c, k, i, f, a, cell, h1, h2, h3, h4, h5, h6, h7, h8, h9, h10⟩ := h
  exact ⟨c, k, i, f, a, cell, h1, h2, h3, h4, by rw [hq a (Array.getElem?_eq_some_iff.mp h5).1 h10]; exact h5, h6, h7, h8, h9, h10⟩
theorem vx_L.narrow {C n d : String} {A B : Nat → Prop} {U : State} {H : Heap} (h : vx_L C n d A U H) (hAB : ∀ q, B q → A q) : vx_L C n d B U H := by
  obtain ⟨c, k, i, f, a, cell, h1, h2, h3, h4, h5, h6, h7, h8, h9, h10⟩ := h
  exact ⟨c, k, i, f, a, cell, h1, h2, h3, h4, h5, h6, h7, h8, h9, fun z => h10 (hAB _ z)⟩
theorem vx_L.word {C n d : String} {A : Nat → Prop} {s : State} {args : Array Value} (h : vx_L C n d A s s.heap) : (Cond.laysStatic C n d).before args s = true := by
  obtain ⟨c, k, i, f, a, cell, h1, h2, h3, h4, h5, h6, h7, h8, h9, -⟩ := h
  show (Cond.laysStatic C n d).holds args s none s [] = true
  exact Cond.laysStatic_of h1 h2 h3 h4 h5 h6 h7 h8 h9
/-- .. and what it holds: null or some reference -/
def vx_Zq (C n d : String) (A : Nat → Prop) (U : State) (H : Heap) : Prop := va_Zq C n d A U H ∧ vx_L C n d A U H
theorem vx_Zq.moved {C n d : String} {A : Nat → Prop} {u U : State} {H : Heap} (hvm : u.vm.Alike U.vm) (h : vx_Zq C n d A u H) : vx_Zq C n d A U H := ⟨va_Zq.moved hvm h.1, vx_L.moved hvm h.2⟩
theorem vx_Zq.kept {C n d : String} {A : Nat → Prop} {U : State} {H H1 : Heap} (h : vx_Zq C n d A U H) (hq : ∀ a : Nat, a < H.size → ¬ A a → H1[a]? = H[a]?) : vx_Zq C n d A U H1 := ⟨va_Zq.kept h.1 hq, vx_L.kept h.2 hq⟩
theorem vx_Zq.narrow {C n d : String} {A B : Nat → Prop} {U : State} {H : Heap} (h : vx_Zq C n d A U H) (hAB : ∀ q, B q → A q) : vx_Zq C n d B U H := ⟨va_Zq.narrow h.1 hAB, vx_L.narrow h.2 hAB⟩
theorem vx_Zqof {args : Array Value} {s : State} {C n d : String} {A : Nat → Prop} (hl : (Cond.laysStatic C n d).before args s = true) (hini : (Cond.initialized C).before args s = true) (h : (Cond.isRef (.static C n d)).before args s = true) (hA : ∀ a : Nat, a < s.heap.size → ¬ A a) : vx_Zq C n d A s s.heap := by
  refine ⟨va_Zqof hl hini h hA, ?_⟩
  obtain ⟨c, k, i, f, a, cell, h1, h2, h3, h4, h5, h6, h7, h8, h9⟩ := Cond.laysStatic_spec hl
  exact ⟨c, k, i, f, a, cell, h1, h2, h3, h4, h5, h6, h7, h8, h9, hA a (Array.getElem?_eq_some_iff.mp h5).1⟩
theorem vx_isRef {C n d : String} {v : Value} {A : Nat → Prop} {s : State} {args : Array Value} (h : va_Z C n d v A s s.heap) (hv : v.isRef = true) : (Cond.isRef (.static C n d)).before args s = true := by
  obtain ⟨cf, kf, fi, f, a, cell, h1, h2, h3, h4, h5, h6, h7, -⟩ := h
  have he : (Term.static C n d).eval args s none [] s = some v := by
    simp [Term.eval, State.fieldNamed?, h1, h2, h4, h5, h6, h7]
  simp only [Cond.before, Cond.holds, Cond.value, he]
  cases v <;> simp_all [Value.isRef]
theorem vx_isRefq {C n d : String} {A : Nat → Prop} {s : State} {args : Array Value} (h : va_Zq C n d A s s.heap) : (Cond.isRef (.static C n d)).before args s = true := by
  rcases h with h | ⟨t, h⟩
  · exact vx_isRef h rfl
  · exact vx_isRef h rfl
/-- the same frame, seen from here: as if the method were called anew in this heap -/
theorem vx_rebase {T : State} (X : Stand p l e R s m args below meth c T locs cells slots) {R' : Room} (hf : R'.frames ≤ R.frames) (hl : R'.locals ≤ R.locals) (hc : cells + R'.cells ≤ R.cells) (hs : slots + R'.slots ≤ R.slots) :
    Stand p l e R' ((T.setVm s.vm).setFrames (.invoking m args :: below)) m args below meth c T [] 0 0 := by
  have htop : (T.setVm s.vm).topJava?.isSome := X.here.top
  have hF : ((T.setVm s.vm).setFrames (.invoking m args :: below)).frames = .invoking m args :: below := State.frames_setFrames _ (State.cur_lt_of_top htop)
  obtain ⟨g₀, hg0⟩ := Option.isSome_iff_exists.mp htop
  obtain ⟨r, hr⟩ := State.topJava?_eq_some.mp hg0
  have hl9 : e.platform.stackLimits (T.setVm s.vm).me = e.platform.stackLimits s.me := X.limits
  have hb9 : (T.setVm s.vm).me.stackBytes = s.me.stackBytes := X.bytes
  refine ⟨X.admits, X.cas, X.clock, hF, ?_, X.hears, X.method, X.code, X.here, X.tail, X.warmed, ?_, ?_, ?_⟩
  · have h := X.room
    have hU : ((T.setVm s.vm).setFrames (.invoking m args :: below)).localsInUse = s.localsInUse := by
      rw [State.localsInUse_invoking hF (meth := meth) (c := c) X.method X.code, State.localsInUse_invoking X.frames X.method X.code]
    simp only [State.hasRoom, Bool.and_eq_true, decide_eq_true_eq] at h ⊢
    obtain ⟨⟨⟨⟨h1, h2, h3, h4, h5, h6⟩, h7⟩, h8⟩, h9⟩ := h
    rw [X.frames, List.length_cons] at h2 h3
    have q1 := X.heapSize
    have q2 := X.used
    simp only [hF, hU, List.length_cons, State.stackLimits_setFrames, State.stackBytes_setFrames, hl9, hb9]
    refine ⟨⟨⟨⟨by omega, by omega, by omega, by omega, by omega, h6⟩, ?_⟩, ?_⟩, X.book⟩
    · show T.heap.size + R'.cells ≤ e.platform.maxCells
      omega
    · show T.slotsUsed + R'.slots ≤ e.platform.maxSlots
      omega
  · rw [State.stackLimits_setFrames]; rfl
  · rw [State.stackBytes_setFrames]; rfl
  · refine ⟨?_, Nat.le_refl _, Nat.le_refl _, ?_, ?_, fun a c9 h9 => ⟨c9, h9, rfl, rfl, fun _ _ => rfl⟩⟩
    · obtain ⟨t, ht, -⟩ := State.frames_cons hr
      show T.setVm s.vm = { ((T.setVm s.vm).setFrames (.invoking m args :: below)).setFrames (T.setVm s.vm).frames with heap := T.heap, slotsUsed := T.slotsUsed }
      rw [State.setFrames_setFrames, State.setFrames_self ht]
      rfl
    · show T.slotsUsed = T.slotsUsed + ((T.heap.toList.drop T.heap.size).map (·.slots.size)).sum
      rw [List.drop_eq_nil_of_le (Nat.le_of_eq Array.length_toList)]
      rfl
    · show ((T.heap.toList.drop T.heap.size).map (·.slots.size)).sum ≤ 0
      rw [List.drop_eq_nil_of_le (Nat.le_of_eq Array.length_toList)]
      exact Nat.le_refl _
/-- 'throw new E()': new; dup; invokespecial; athrow -/
theorem vx_throw0 {cc : ByteArray} {pc : Nat} (hexec : p.tables.exec = Jvm.exec) (hb : c.code = cc) (hl : l.stackTraces = false) {own cls : String} {names : List String} {ik ic mc ms : Nat} {A : Nat → Prop}
    (hown : s.vm.findClass own = some m.cls) (hcls : Bundle.fit cls = true) (hnames : ∀ n ∈ names, Bundle.fit n = true)
    (hk : (Cond.classLink own ik cls).before args s = true) (hini : (Cond.initialized cls).before args s = true) (hat : ∀ w ∈ vx_at0 own ic cls names, w.before args s = true)
    (hgood : ∀ w ∈ Cond.classLink own ik cls :: Cond.initialized cls :: vx_at0 own ic cls names, vx_ot w = true)
    (hU : vx_Zq Bundle.tN "UNASSIGNED_STACK" Bundle.steD A s s.heap) (hN : vx_Zq Bundle.tN "SUPPRESSED_SENTINEL" Bundle.listD A s s.heap) (hS : va_S A s.heap H locs) (hsize : ls.size = c.maxLocals)
    (d0 : decode cc pc = .ok (.new ik, 3)) (d3 : decode cc (pc + 3) = .ok (.dup, 1)) (d4 : decode cc (pc + 4) = .ok (.invokespecial ic, 3)) (d7 : decode cc (pc + 7) = .ok (.athrow, 1))
    (hout : ∀ x ∈ c.exceptionTable.toList, covers x (pc + 7) = false)
    (hRframes : names.length + 3 < R.frames) (hRlocals : (rest.map fun v => v.category).sum + (13 * (names.length + 1) + 42) ≤ R.locals) (hRcells : cells + 1 ≤ R.cells) (hRslots : slots + 6 ≤ R.slots) (hlocks : meth.locks = false)
    (hx : ∀ t : State, s.vm.Alike t.vm → H.size ≤ t.heap.size → (∀ q : Nat, q < H.size → t.heap[q]? = H[q]?) → XC cls s t)
    (hf : ∀ z ∈ locs, free z.base) (hc : cells + 1 ≤ mc) (hs : slots + 6 ≤ ms) :
    W p l e R s m args below meth c H locs cells slots (vx_MQ below Qc XC args s mc ms free) (F0 m pc ls rest) := by
  intro T hT X
  have htr : e.platform.stackTraces = false := (show e.platform.stackTraces = l.stackTraces by rw [X.admits.platform]).trans hl
  have Y := vx_rebase X (R' := { frames := R.frames, locals := R.locals, cells := 1, slots := 6 }) (Nat.le_refl _) (Nat.le_refl _) hRcells hRslots
  obtain ⟨s', hA⟩ : ∃ z, z = (T.setVm s.vm).setFrames (.invoking m args :: below) := ⟨_, rfl⟩
  rw [← hA] at Y
  have hvm : s'.vm = s.vm := by rw [hA]; rfl
  have hhp : s'.heap = H := by rw [hA]; exact hT
  have hW0 : s.WarmedH s'.vm := by rw [hvm]; exact State.WarmedH.refl s
  have hat' : ∀ w ∈ vx_at0 own ic cls names, w.before args s' = true := fun w hw => vx_ot_at hW0 hvm.symm (hgood w (List.mem_cons_of_mem _ (List.mem_cons_of_mem _ hw))) (hat w hw)
  have hk' : (Cond.classLink own ik cls).before args s' = true := vx_ot_at hW0 hvm.symm (hgood _ List.mem_cons_self) hk
  have hini' : (Cond.initialized cls).before args s' = true := vx_ot_at hW0 hvm.symm (hgood _ (List.mem_cons_of_mem _ List.mem_cons_self)) hini
  have hU' : vx_Zq Bundle.tN "UNASSIGNED_STACK" Bundle.steD A s' s'.heap := by rw [hhp]; exact vx_Zq.moved hW0.alike (hU.kept hS.2.1)
  have hN' : vx_Zq Bundle.tN "SUPPRESSED_SENTINEL" Bundle.listD A s' s'.heap := by rw [hhp]; exact vx_Zq.moved hW0.alike (hN.kept hS.2.1)
  have h : ∀ w ∈ Bundle.ownAtoms0 own ic cls names, w.before args s' = true := vx_own hat' (vx_isRefq hU'.1) (vx_isRefq hN'.1) hU'.2.word hN'.2.word
  have hown' : s'.vm.findClass own = some m.cls := by rw [hvm]; exact hown
  have hins : (Cond.instantiable cls 6).before args s' = true := h _ (by simp [Bundle.ownAtoms0])
  obtain ⟨vm₁, cX, kX, hfX, hkX, -, -, X₁, st1⟩ := Y.newCold hexec (own := own) (C := cls) (index := ik) (n := 6) hown' hk' hins hini'
    (g := F0 m pc ls rest) rfl (by rw [hb]; exact d0) (Nat.le_refl _) (Nat.le_refl _)
  generalize hT1 : (T.setVm vm₁).pushCell { cls := cX, slots := kX.instanceTypes.map defaultValue, vm := .none } = T1 at X₁ st1
  have hcat : (Value.ref T.heap.size).category = 1 := rfl
  have hcellA : T1.heap[T.heap.size]? = some (freshCell cX kX) := by rw [← hT1]; exact State.heap_pushCell_size _ _
  have d3' : decode c.code (pc + 3) = .ok (.dup, 1) := by rw [hb]; exact d3
  obtain ⟨U, hsteps, hrun, hend, hW, hsame, ce, hce, hO⟩ := X₁.ctorThrow0 hexec htr (own := own) (cls := cls) (names := names) (ic := ic) hown' hcls hnames h (fun x hx => nomatch hx) hfX hkX hcellA (by rw [hhp, hT]; exact Nat.le_refl _)
    (g := { method := m, pc := pc + 4, locals := ls, stack := .ref T.heap.size :: .ref T.heap.size :: rest, locked := none }) rfl hsize rfl rfl (rest := rest) rfl
    (by rw [hb]; exact d4) (by rw [hb]; exact d7) hout hRframes (by simp only [List.map_cons, List.sum_cons, hcat]; omega) hlocks
  obtain ⟨f1, f2⟩ := vx_frame hsame
  rw [hhp] at f1 f2
  have hWs : s.WarmedH U.vm := State.WarmedH.trans hW0 hW
  have hcl : s.vm.findClass cls = some ce.cls := by
    have h9 := hO.cls
    rw [hvm] at h9
    exact h9
  have hall : s.sameButNew ({ U with vm := s.vm } : State) locs mc ms := by
    subst hA
    obtain ⟨e1, e2⟩ := hsame
    rw [State.setFrames_setFrames] at e1
    have h2 : (T.setVm s.vm).sameButNew ({ U with vm := s.vm } : State) [] (0 + 1) (0 + 6) := ⟨e1, e2⟩
    have h3 := X.same.trans h2
    rw [List.append_nil] at h3
    exact h3.mono hc hs
  refine ⟨U, ?_, .threw T.heap.size, hrun, hend, Or.inr ⟨T.heap.size, rfl, cls, ce, locs, hx U hWs.alike f1 (fun q hq => f2 q hq (fun z hz => nomatch hz)), hce, hO.vm, hcl, hWs, hall, hf⟩⟩
  refine st1 _ ?_
  show Steps p.tables e below (T1.setTop { method := m, pc := pc + 3, locals := ls, stack := .ref T.heap.size :: rest, locked := none }) _
  jvm_step X₁.here [X₁.here.top, hexec, d3', Value.category]
  exact hsteps
/-- 'throw new E("text")': new; dup; ldc; invokespecial; athrow -/
theorem vx_throwS {cc : ByteArray} {pc : Nat} (hexec : p.tables.exec = Jvm.exec) (hb : c.code = cc) (hl : l.stackTraces = false) {own cls text : String} {names : List String} {ik is ic mc ms sa : Nat} {A : Nat → Prop}
    (hown : s.vm.findClass own = some m.cls) (hcls : Bundle.fit cls = true) (hnames : ∀ n ∈ names, Bundle.fit n = true)
    (hk : (Cond.classLink own ik cls).before args s = true) (hini : (Cond.initialized cls).before args s = true) (hstr : vk_R own is text sa s) (hat : ∀ w ∈ vx_atS own ic cls names, w.before args s = true)
    (hgood : ∀ w ∈ Cond.classLink own ik cls :: Cond.initialized cls :: vx_atS own ic cls names, vx_ot w = true)
    (hU : vx_Zq Bundle.tN "UNASSIGNED_STACK" Bundle.steD A s s.heap) (hN : vx_Zq Bundle.tN "SUPPRESSED_SENTINEL" Bundle.listD A s s.heap) (hS : va_S A s.heap H locs) (hsize : ls.size = c.maxLocals)
    (d0 : decode cc pc = .ok (.new ik, 3)) (d3 : decode cc (pc + 3) = .ok (.dup, 1)) (d4 : decode cc (pc + 4) = .ok (.ldc is, 2)) (d6 : decode cc (pc + 6) = .ok (.invokespecial ic, 3)) (d9 : decode cc (pc + 9) = .ok (.athrow, 1))
    (hout : ∀ x ∈ c.exceptionTable.toList, covers x (pc + 9) = false)
    (hRframes : names.length + 3 < R.frames) (hRlocals : (rest.map fun v => v.category).sum + (13 * (names.length + 1) + 43) ≤ R.locals) (hRcells : cells + 1 ≤ R.cells) (hRslots : slots + 6 ≤ R.slots) (hlocks : meth.locks = false)
    (hx : ∀ t : State, s.vm.Alike t.vm → H.size ≤ t.heap.size → (∀ q : Nat, q < H.size → t.heap[q]? = H[q]?) → XC cls s t)
    (hf : ∀ z ∈ locs, free z.base) (hc : cells + 1 ≤ mc) (hs : slots + 6 ≤ ms) :
    W p l e R s m args below meth c H locs cells slots (vx_MQ below Qc XC args s mc ms free) (F0 m pc ls rest) := by
  intro T hT X
  have htr : e.platform.stackTraces = false := (show e.platform.stackTraces = l.stackTraces by rw [X.admits.platform]).trans hl
  have Y := vx_rebase X (R' := { frames := R.frames, locals := R.locals, cells := 1, slots := 6 }) (Nat.le_refl _) (Nat.le_refl _) hRcells hRslots
  obtain ⟨s', hA⟩ : ∃ z, z = (T.setVm s.vm).setFrames (.invoking m args :: below) := ⟨_, rfl⟩
  rw [← hA] at Y
  have hvm : s'.vm = s.vm := by rw [hA]; rfl
  have hhp : s'.heap = H := by rw [hA]; exact hT
  have hW0 : s.WarmedH s'.vm := by rw [hvm]; exact State.WarmedH.refl s
  have hat' : ∀ w ∈ vx_atS own ic cls names, w.before args s' = true := fun w hw => vx_ot_at hW0 hvm.symm (hgood w (List.mem_cons_of_mem _ (List.mem_cons_of_mem _ hw))) (hat w hw)
  have hk' : (Cond.classLink own ik cls).before args s' = true := vx_ot_at hW0 hvm.symm (hgood _ List.mem_cons_self) hk
  have hini' : (Cond.initialized cls).before args s' = true := vx_ot_at hW0 hvm.symm (hgood _ (List.mem_cons_of_mem _ List.mem_cons_self)) hini
  have hU' : vx_Zq Bundle.tN "UNASSIGNED_STACK" Bundle.steD A s' s'.heap := by rw [hhp]; exact vx_Zq.moved hW0.alike (hU.kept hS.2.1)
  have hN' : vx_Zq Bundle.tN "SUPPRESSED_SENTINEL" Bundle.listD A s' s'.heap := by rw [hhp]; exact vx_Zq.moved hW0.alike (hN.kept hS.2.1)
  have h : ∀ w ∈ Bundle.ownAtoms own ic cls names, w.before args s' = true := vx_own hat' (vx_isRefq hU'.1) (vx_isRefq hN'.1) hU'.2.word hN'.2.word
  have hown' : s'.vm.findClass own = some m.cls := by rw [hvm]; exact hown
  have hins : (Cond.instantiable cls 6).before args s' = true := h _ (by simp [Bundle.ownAtoms])
  obtain ⟨vm₁, cX, kX, hfX, hkX, -, -, X₁, st1⟩ := Y.newCold hexec (own := own) (C := cls) (index := ik) (n := 6) hown' hk' hins hini'
    (g := F0 m pc ls rest) rfl (by rw [hb]; exact d0) (Nat.le_refl _) (Nat.le_refl _)
  generalize hT1 : (T.setVm vm₁).pushCell { cls := cX, slots := kX.instanceTypes.map defaultValue, vm := .none } = T1 at X₁ st1
  have hcat : (Value.ref T.heap.size).category = 1 := rfl
  have hcellA : T1.heap[T.heap.size]? = some (freshCell cX kX) := by rw [← hT1]; exact State.heap_pushCell_size _ _
  have d3' : decode c.code (pc + 3) = .ok (.dup, 1) := by rw [hb]; exact d3
  have d4' : decode c.code (pc + 4) = .ok (.ldc is, 2) := by rw [hb]; exact d4
  have hstr' : vk_R own is text sa s' := vk_R.warm hW0 hstr
  obtain ⟨U, hsteps, hrun, hend, hW, hsame, ce, hce, hO⟩ := X₁.ctorThrowS hexec htr (own := own) (cls := cls) (names := names) (ic := ic) hown' hcls hnames h (fun x hx => nomatch hx) hfX hkX hcellA (by rw [hhp, hT]; exact Nat.le_refl _) (msg := .ref sa) rfl
    (g := { method := m, pc := pc + 6, locals := ls, stack := .ref sa :: .ref T.heap.size :: .ref T.heap.size :: rest, locked := none }) rfl hsize rfl rfl (rest := rest) rfl
    (by rw [hb]; exact d6) (by rw [hb]; exact d9) hout hRframes (by simp only [List.map_cons, List.sum_cons, hcat]; omega) hlocks
  obtain ⟨f1, f2⟩ := vx_frame hsame
  rw [hhp] at f1 f2
  have hWs : s.WarmedH U.vm := State.WarmedH.trans hW0 hW
  have hcl : s.vm.findClass cls = some ce.cls := by
    have h9 := hO.cls
    rw [hvm] at h9
    exact h9
  have hall : s.sameButNew ({ U with vm := s.vm } : State) locs mc ms := by
    subst hA
    obtain ⟨e1, e2⟩ := hsame
    rw [State.setFrames_setFrames] at e1
    have h2 : (T.setVm s.vm).sameButNew ({ U with vm := s.vm } : State) [] (0 + 1) (0 + 6) := ⟨e1, e2⟩
    have h3 := X.same.trans h2
    rw [List.append_nil] at h3
    exact h3.mono hc hs
  refine ⟨U, ?_, .threw T.heap.size, hrun, hend, Or.inr ⟨T.heap.size, rfl, cls, ce, locs, hx U hWs.alike f1 (fun q hq => f2 q hq (fun z hz => nomatch hz)), hce, hO.vm, hcl, hWs, hall, hf⟩⟩
  refine st1 _ ?_
  show Steps p.tables e below (T1.setTop { method := m, pc := pc + 3, locals := ls, stack := .ref T.heap.size :: rest, locked := none }) _
  jvm_step X₁.here [X₁.here.top, hexec, d3', Value.category]
  exact X₁.ldcString hexec (own := own) (text := text) (index := is) (a := sa) hown' hstr'.1 hstr'.2
    (g := { method := m, pc := pc + 4, locals := ls, stack := .ref T.heap.size :: .ref T.heap.size :: rest, locked := none }) rfl d4' _ hsteps
/-- 'throw new E("text")', the text by a wide index -/
theorem vx_throwSW {cc : ByteArray} {pc : Nat} (hexec : p.tables.exec = Jvm.exec) (hb : c.code = cc) (hl : l.stackTraces = false) {own cls text : String} {names : List String} {ik is ic mc ms sa : Nat} {A : Nat → Prop}
    (hown : s.vm.findClass own = some m.cls) (hcls : Bundle.fit cls = true) (hnames : ∀ n ∈ names, Bundle.fit n = true)
    (hk : (Cond.classLink own ik cls).before args s = true) (hini : (Cond.initialized cls).before args s = true) (hstr : vk_R own is text sa s) (hat : ∀ w ∈ vx_atS own ic cls names, w.before args s = true)
    (hgood : ∀ w ∈ Cond.classLink own ik cls :: Cond.initialized cls :: vx_atS own ic cls names, vx_ot w = true)
    (hU : vx_Zq Bundle.tN "UNASSIGNED_STACK" Bundle.steD A s s.heap) (hN : vx_Zq Bundle.tN "SUPPRESSED_SENTINEL" Bundle.listD A s s.heap) (hS : va_S A s.heap H locs) (hsize : ls.size = c.maxLocals)
    (d0 : decode cc pc = .ok (.new ik, 3)) (d3 : decode cc (pc + 3) = .ok (.dup, 1)) (d4 : decode cc (pc + 4) = .ok (.ldc_w is, 3)) (d7 : decode cc (pc + 7) = .ok (.invokespecial ic, 3)) (d10 : decode cc (pc + 10) = .ok (.athrow, 1))
    (hout : ∀ x ∈ c.exceptionTable.toList, covers x (pc + 10) = false)
    (hRframes : names.length + 3 < R.frames) (hRlocals : (rest.map fun v => v.category).sum + (13 * (names.length + 1) + 43) ≤ R.locals) (hRcells : cells + 1 ≤ R.cells) (hRslots : slots + 6 ≤ R.slots) (hlocks : meth.locks = false)
    (hx : ∀ t : State, s.vm.Alike t.vm → H.size ≤ t.heap.size → (∀ q : Nat, q < H.size → t.heap[q]? = H[q]?) → XC cls s t)
    (hf : ∀ z ∈ locs, free z.base) (hc : cells + 1 ≤ mc) (hs : slots + 6 ≤ ms) :
    W p l e R s m args below meth c H locs cells slots (vx_MQ below Qc XC args s mc ms free) (F0 m pc ls rest) := by
  intro T hT X
  have htr : e.platform.stackTraces = false := (show e.platform.stackTraces = l.stackTraces by rw [X.admits.platform]).trans hl
  have Y := vx_rebase X (R' := { frames := R.frames, locals := R.locals, cells := 1, slots := 6 }) (Nat.le_refl _) (Nat.le_refl _) hRcells hRslots
  obtain ⟨s', hA⟩ : ∃ z, z = (T.setVm s.vm).setFrames (.invoking m args :: below) := ⟨_, rfl⟩
  rw [← hA] at Y
  have hvm : s'.vm = s.vm := by rw [hA]; rfl
  have hhp : s'.heap = H := by rw [hA]; exact hT
  have hW0 : s.WarmedH s'.vm := by rw [hvm]; exact State.WarmedH.refl s
  have hat' : ∀ w ∈ vx_atS own ic cls names, w.before args s' = true := fun w hw => vx_ot_at hW0 hvm.symm (hgood w (List.mem_cons_of_mem _ (List.mem_cons_of_mem _ hw))) (hat w hw)
  have hk' : (Cond.classLink own ik cls).before args s' = true := vx_ot_at hW0 hvm.symm (hgood _ List.mem_cons_self) hk
  have hini' : (Cond.initialized cls).before args s' = true := vx_ot_at hW0 hvm.symm (hgood _ (List.mem_cons_of_mem _ List.mem_cons_self)) hini
  have hU' : vx_Zq Bundle.tN "UNASSIGNED_STACK" Bundle.steD A s' s'.heap := by rw [hhp]; exact vx_Zq.moved hW0.alike (hU.kept hS.2.1)
  have hN' : vx_Zq Bundle.tN "SUPPRESSED_SENTINEL" Bundle.listD A s' s'.heap := by rw [hhp]; exact vx_Zq.moved hW0.alike (hN.kept hS.2.1)
  have h : ∀ w ∈ Bundle.ownAtoms own ic cls names, w.before args s' = true := vx_own hat' (vx_isRefq hU'.1) (vx_isRefq hN'.1) hU'.2.word hN'.2.word
  have hown' : s'.vm.findClass own = some m.cls := by rw [hvm]; exact hown
  have hins : (Cond.instantiable cls 6).before args s' = true := h _ (by simp [Bundle.ownAtoms])
  obtain ⟨vm₁, cX, kX, hfX, hkX, -, -, X₁, st1⟩ := Y.newCold hexec (own := own) (C := cls) (index := ik) (n := 6) hown' hk' hins hini'
    (g := F0 m pc ls rest) rfl (by rw [hb]; exact d0) (Nat.le_refl _) (Nat.le_refl _)
  generalize hT1 : (T.setVm vm₁).pushCell { cls := cX, slots := kX.instanceTypes.map defaultValue, vm := .none } = T1 at X₁ st1
  have hcat : (Value.ref T.heap.size).category = 1 := rfl
  have hcellA : T1.heap[T.heap.size]? = some (freshCell cX kX) := by rw [← hT1]; exact State.heap_pushCell_size _ _
  have d3' : decode c.code (pc + 3) = .ok (.dup, 1) := by rw [hb]; exact d3
  have d4' : decode c.code (pc + 4) = .ok (.ldc_w is, 3) := by rw [hb]; exact d4
  have hstr' : vk_R own is text sa s' := vk_R.warm hW0 hstr
  obtain ⟨U, hsteps, hrun, hend, hW, hsame, ce, hce, hO⟩ := X₁.ctorThrowS hexec htr (own := own) (cls := cls) (names := names) (ic := ic) hown' hcls hnames h (fun x hx => nomatch hx) hfX hkX hcellA (by rw [hhp, hT]; exact Nat.le_refl _) (msg := .ref sa) rfl
    (g := { method := m, pc := pc + 7, locals := ls, stack := .ref sa :: .ref T.heap.size :: .ref T.heap.size :: rest, locked := none }) rfl hsize rfl rfl (rest := rest) rfl
    (by rw [hb]; exact d7) (by rw [hb]; exact d10) hout hRframes (by simp only [List.map_cons, List.sum_cons, hcat]; omega) hlocks
  obtain ⟨f1, f2⟩ := vx_frame hsame
  rw [hhp] at f1 f2
  have hWs : s.WarmedH U.vm := State.WarmedH.trans hW0 hW
  have hcl : s.vm.findClass cls = some ce.cls := by
    have h9 := hO.cls
    rw [hvm] at h9
    exact h9
  have hall : s.sameButNew ({ U with vm := s.vm } : State) locs mc ms := by
    subst hA
    obtain ⟨e1, e2⟩ := hsame
    rw [State.setFrames_setFrames] at e1
    have h2 : (T.setVm s.vm).sameButNew ({ U with vm := s.vm } : State) [] (0 + 1) (0 + 6) := ⟨e1, e2⟩
    have h3 := X.same.trans h2
    rw [List.append_nil] at h3
    exact h3.mono hc hs
  refine ⟨U, ?_, .threw T.heap.size, hrun, hend, Or.inr ⟨T.heap.size, rfl, cls, ce, locs, hx U hWs.alike f1 (fun q hq => f2 q hq (fun z hz => nomatch hz)), hce, hO.vm, hcl, hWs, hall, hf⟩⟩
  refine st1 _ ?_
  show Steps p.tables e below (T1.setTop { method := m, pc := pc + 3, locals := ls, stack := .ref T.heap.size :: rest, locked := none }) _
  jvm_step X₁.here [X₁.here.top, hexec, d3', Value.category]
  exact X₁.ldcStringW hexec (own := own) (text := text) (index := is) (a := sa) hown' hstr'.1 hstr'.2
    (g := { method := m, pc := pc + 4, locals := ls, stack := .ref T.heap.size :: .ref T.heap.size :: rest, locked := none }) rfl d4' _ hsteps
end Ends
section Bodies
variable {l : Launch}
theorem vx_ofW {y : MethodName} {ws ws' : List Cond} {rm : Room} {Pc : Array Value → State → Prop} {Qc : Array Value → State → Outcome → State → Prop} {XC : String → State → State → Prop} {mc ms : Nat} {free : Addr → Prop} {cc : ByteArray} {maxL : Nat} {ret : Option FieldType}
    (hy : plainName y.cls = true) (hw : ws = Cond.code y cc maxL ret :: ws')
    (body : ∀ p e s m args below meth c s₁, BodyLoose p l y (headSpec ws rm) cc maxL ret e s m args below meth c s₁ → c.maxLocals = maxL → (∀ x ∈ c.exceptionTable.toList, False) → Pc args s →
      W p l e (headSpec ws rm).room s m args below meth c s.heap [] 0 0 (vx_MQ below Qc XC args s mc ms free) (entryFrame m args maxL)) : vx_Met l y ws rm Pc Qc XC mc ms free := by
  refine MetFree.of_bodyS (code := cc) (maxLocals := maxL) (ret := ret) hy ?_ ?_
  · intro args s m h hn
    obtain ⟨meth, c, h1, h2, h3, h4, h5, h6, -, -⟩ := Cond.code_spec hn (atoms_spec (ws := ws) h _ (by rw [hw]; exact List.mem_cons_self))
    exact ⟨meth, c, h1, h2, h3, h4, h5, h6⟩
  · intro p e s m args below meth c s₁ B hml hP _
    have hh0 : s₁.heap = s.heap := by rw [B.state]; rfl
    have ht : ∀ x ∈ c.exceptionTable.toList, False := by
      obtain ⟨meth9, c9, h1, h2, -, -, -, -, h7, -⟩ := Cond.code_spec B.named (atoms_spec (ws := ws) B.pre _ (by rw [hw]; exact List.mem_cons_self))
      cases Option.some.inj (h1.symm.trans B.method)
      cases Option.some.inj (h2.symm.trans (Stand.of_body B).code)
      intro x hx
      rw [Array.isEmpty_iff.mp h7] at hx
      cases hx
    obtain ⟨t, a1, o, b1, b2, b3⟩ := body p e s m args below meth c s₁ B hml ht hP s₁ hh0 (Stand.of_body B)
    exact ⟨t, o, a1, b1, b2, b3⟩
/-- the table of a body with handlers -/
theorem vx_table {p : Program} {x y : MethodName} {S : Spec} {cc bytes : ByteArray} {maxL maxL' : Nat} {ret ret' : Option FieldType} {e : Env} {s s₁ : State} {m : MethodId} {args : Array Value} {below : List Frame} {meth : Method} {c : Code} {hh : List (Nat × Nat × Nat × Nat)}
    (B : BodyLoose p l y S cc maxL ret e s m args below meth c s₁) (h : (Cond.codeWith y bytes maxL' ret' hh).before args s = true) : c.exceptionTable.toList = tableOf hh := by
  obtain ⟨m9, meth9, c9, hn9, h1, h2, -, -, h6, -⟩ := Cond.codeWith_spec h
  cases Option.some.inj (hn9.symm.trans B.named)
  cases Option.some.inj (h1.symm.trans B.method)
  cases Option.some.inj (h2.symm.trans (Stand.of_body B).code)
  rw [← h6, table_eq]
end Bodies
end VXA
/-! ===== END ===== -/
/-! ===== BEGIN a static call of a method with an exception table ===== -/
section VXS
variable {p : Program} {l : Launch} {e : Env} {R : Room} {s : State} {m : MethodId} {args : Array Value} {below : List Frame} {meth : Method} {c : Code} {T : State} {H : Heap} {locs : List Loc} {cells slots : Nat}
abbrev vx_CSW (R : Room) (s : State) (args : Array Value) (own : String) (index : Nat) (y : MethodName) (bytes : ByteArray) (maxL : Nat) (ret : Option FieldType) (hh : List (Nat × Nat × Nat × Nat)) (ws : List Cond) (rm : Room) (mc ms n : Nat) : Prop :=
  (rm.cells = mc ∧ rm.slots = ms ∧ rm.frames + 1 ≤ R.frames ∧ 8 + (maxL + 11) + rm.locals ≤ R.locals ∧ (∀ w ∈ ws, ∀ (a' : Array Value) (U : State), s.WarmedH U.vm → w.before a' U = true) ∧ Cond.codeWith y bytes maxL ret hh ∈ ws) ∧
  (Cond.codeWith y bytes maxL ret hh).before args s = true ∧ (Cond.initialized y.cls).before args s = true ∧ (y.cls ≠ "java/lang/invoke/MethodHandle" ∧ y.cls ≠ "java/lang/invoke/VarHandle") ∧
  (∀ sig, parseMethodDescriptor y.desc = some sig → n = sig.parameters.length) ∧ (Cond.methodLink own index y).before args s = true ∧ (Cond.static y).before args s = true
theorem vx_cwSW {own : String} {index maxL mc ms : Nat} {y : MethodName} {bytes : ByteArray} {ret : Option FieldType} {hh : List (Nat × Nat × Nat × Nat)} {Ts ws ws' : List Cond} {rm : Room} (n : Nat) (ht : ∀ w ∈ Ts, w.before args s = true) (hT : GoodIn Ts (va_wsS own index y ws)) (hw : ws = Cond.codeWith y bytes maxL ret hh :: ws') (hrc : rm.cells = mc) (hrs : rm.slots = ms)
    (hd : y.cls ≠ "java/lang/invoke/MethodHandle" ∧ y.cls ≠ "java/lang/invoke/VarHandle" ∧ (parseMethodDescriptor y.desc).map (fun d => d.parameters.length) = some n) (hR : rm.frames + 1 ≤ R.frames ∧ 8 + (maxL + 11) + rm.locals ≤ R.locals) :
    vx_CSW R s args own index y bytes maxL ret hh ws rm mc ms n := by
  have ok : ∀ w ∈ va_wsS own index y ws, w.before args s = true := fun w h => ht w (hT w h).1
  have hG : GoodIn Ts ws := fun w h => hT w (by unfold va_wsS; exact List.mem_append_right _ h)
  have hc : Cond.codeWith y bytes maxL ret hh ∈ ws := by rw [hw]; exact List.mem_cons_self
  refine ⟨⟨hrc, hrs, hR.1, hR.2, pay_in ht hG, hc⟩, ht _ (hG _ hc).1, ok _ (by simp [va_wsS]), ⟨hd.1, hd.2.1⟩, fun sig h => ?_, ok _ (by simp [va_wsS]), ok _ (by simp [va_wsS])⟩
  have h2 := hd.2.2
  rw [h] at h2
  exact (Option.some.inj h2).symm
theorem vx_callSW (X : Stand p l e R s m args below meth c T locs cells slots) (hexec : p.tables.exec = Jvm.exec) {own : String} {index : Nat} {y : MethodName} {bytes : ByteArray} {maxL : Nat} {ret : Option FieldType} {hh : List (Nat × Nat × Nat × Nat)}
    (hown : s.vm.findClass own = some m.cls) (hlink : (Cond.methodLink own index y).before args s = true) (hstat : (Cond.static y).before args s = true) (hinit : (Cond.initialized y.cls).before args s = true)
    (hcode : (Cond.codeWith y bytes maxL ret hh).before args s = true) (hy : y.cls ≠ "java/lang/invoke/MethodHandle" ∧ y.cls ≠ "java/lang/invoke/VarHandle")
    {W9 : Nat} {Pre : Pt → Array Value → Prop} {Post : Pt → Array Value → Option Value → Pt → Prop} (hK : Back l R p e below s args y 3 W9 Pre Post)
    {g : JFrame} (hg : g.method = m) (hsize : g.locals.size = c.maxLocals) {argsL rest : List Value} (hlen : ∀ sig, parseMethodDescriptor y.desc = some sig → argsL.length = sig.parameters.length)
    (hstack : g.stack = argsL.reverse ++ rest) (hW : 2 * g.monitorRoom + (rest.map fun v => v.category).sum ≤ W9) (hdg : decode c.code g.pc = .ok (.invokestatic index, 3))
    (hpre : ∀ vm₁, s.WarmedH vm₁ → Pre ⟨T.setVm vm₁, locs, cells, slots⟩ argsL.toArray) :
    ∃ (v : Option Value) (vm₁ : Vm) (B : Pt), s.WarmedH vm₁ ∧ Stand p l e R s m args below meth c B.U B.locs B.cells B.slots ∧ Post ⟨T.setVm vm₁, locs, cells, slots⟩ argsL.toArray v B ∧
      ∀ target, Steps p.tables e below (B.U.setTop { g with pc := g.pc + 3, stack := v.toList ++ rest }) target → Steps p.tables e below (T.setTop g) target := by
  obtain ⟨mk, methM, cM, hnamed, hmethM, -, -, -, -, -, -, hsigM⟩ := Cond.codeWith_spec hcode
  have hstatic : methM.isStatic = true := Cond.static_spec hnamed hmethM hstat
  obtain ⟨kP, hkP, -⟩ := className_of_methodNamed hnamed
  have hinitP : kP.init = .initialized := Cond.initialized_spec (findClass_of_methodNamed hnamed) hkP hinit
  obtain ⟨vm₁, X₁, hstep₁⟩ := X.invokestatic hexec hown hlink hnamed hmethM hstatic hkP hinitP hy (g := g) hg (argsL := argsL) (rest := rest) (hlen _ hsigM) hstack hdg
  obtain ⟨v, B, X', hpost, hsteps⟩ := hK m meth c ⟨T.setVm vm₁, locs, cells, slots⟩ { g with stack := rest } (.invokestatic index) mk argsL.toArray X₁ hg hsize hdg hW (X₁.named hnamed) (hpre vm₁ X₁.warmed)
  exact ⟨v, vm₁, B, X₁.warmed, X', hpost, fun target h => hstep₁ _ fun acts => by rw [doInvoke_state]; exact hsteps.trans h⟩
theorem vx_runSW {y : MethodName} {bytes cc : ByteArray} {maxL nL mc ms n index : Nat} {ret : Option FieldType} {hh : List (Nat × Nat × Nat × Nat)} {ws : List Cond} {rm : Room} {Pc : Array Value → State → Prop} {Qc : Array Value → State → Outcome → State → Prop} {free : Addr → Prop} {Ts : List Cond} {own : String} {As rest : List Value} {g : JFrame}
    (S : CallFix p m c cc nL s args Ts own) (hM : Met l y ws rm Pc Qc mc ms free) (cw : vx_CSW R s args own index y bytes maxL ret hh ws rm mc ms n) (hp : PreS s H Pc As)
    (hg : g.method = m) (hn : As.length = n) (hsize : g.locals.size = nL) (hstack : g.stack = As.reverse ++ rest) (hW : 2 * g.monitorRoom + (rest.map fun v => v.category).sum ≤ 8) (hdg : decode cc g.pc = .ok (.invokestatic index, 3)) (hf : cells + mc ≤ R.cells ∧ slots + ms ≤ R.slots) :
    va_Run p l e R s m args below meth c H locs cells slots mc ms g rest (Qc As.toArray) (free) := by
  obtain ⟨⟨hrc, hrs, hfr, hlo, hws, hcw⟩, hcode, hini, hy, hlen, hl, hstt⟩ := cw
  have hK : Back l R p e below s args y 3 8 (PreOf R mc ms Pc) (PostOf Qc mc ms free) := va_backW (hh := hh) (bytes := bytes) (maxL := maxL) (ret := ret) hM hp.1 hrc hrs hfr hlo hws hcw (fun a' U hW => word_at hW (Or.inl (by first | rfl | simp [Cond.onTables, Cond.keeps, Cond.steady])) hini)
  obtain ⟨hx, hb, hml, ho, -⟩ := S
  intro T hT X
  obtain ⟨v, vm₁, ⟨U', l2, c2, s2⟩, hW₁, X', ⟨g', mk, t, L, e1, e2, hq, h1, hL, h2, h3⟩, st⟩ := vx_callSW X hx (hh := hh) (bytes := bytes) (maxL := maxL) (ret := ret) ho hl hstt hini hcode hy hK hg (hsize.trans hml.symm) (argsL := As) (rest := rest) (fun sig h => hn.trans (hlen sig h)) hstack hW (by rw [hb]; exact hdg)
    (fun vm₁ hW₁ => ⟨hf.1, hf.2, hp.2 (T.setVm vm₁) hT hW₁⟩)
  dsimp only [Pt.U, Pt.locs, Pt.cells, Pt.slots] at X' e1 e2 h1 h2 h3 st
  subst h1; subst h2; subst h3
  exact ⟨v, (T.setVm vm₁).calling g' mk As.toArray, t, U', L, hT, X', hL, e1, e2, hq, st⟩
/-- a thing of a world lies in the heap -/
theorem vx_lt {D : va_G} {cl : List vw_C} {ws : va_W} {H1 : Heap} (h : va_P D cl ws H1) {k : Nat} {q : Nat × va_E} (hk : ws[k]? = some q) : q.1 < H1.size := (h k q hk).lt
end VXS
/-! ===== END ===== -/
/-! ===== BEGIN methods with a table of their own: called by a name, returning or throwing ===== -/
section VXH
/-! vx_backW, vx_callVX, vx_callSX, vx_callVW, vx_runVW, vx_runVX, vx_runSX, vx_ofWH follow the same proofs as their sisters above (Free/Laws.lean, Shelf42/LK1.lean); vx_outP calls Shelf42/NT130.lean (outThrough). -/
section
variable {l : Launch} {R : Room} {p : Program} {e : Env} {below : List Frame} {s : State} {sargs : Array Value} {y : MethodName} {len W9 : Nat}
theorem vx_backW {ws : List Cond} {rm : Room} {Pc : Array Value → State → Prop} {Qc : Array Value → State → Outcome → State → Prop} {XC : String → State → State → Prop} {mc ms : Nat} {free : Addr → Prop} {bytes : ByteArray} {maxL : Nat} {ret : Option FieldType} {hh : List (Nat × Nat × Nat × Nat)}
    (hM : vx_Met l y ws rm Pc Qc XC mc ms free) (hblind : FrameBlind Pc) (hrc : rm.cells = mc) (hrs : rm.slots = ms)
    (hframes : rm.frames + 1 ≤ R.frames) (hlocals : W9 + (maxL + 11) + rm.locals ≤ R.locals)
    (hws : ∀ w ∈ ws, ∀ a' U, s.WarmedH U.vm → w.before a' U = true) (hcode : Cond.codeWith y bytes maxL ret hh ∈ ws) (hinit : ∀ a' U, s.WarmedH U.vm → (Cond.initialized y.cls).before a' U = true) :
    vx_Back l R p e below s sargs y len W9 (PreOf R mc ms Pc) (PostOf Qc mc ms free) (vx_Post XC mc ms free) := by
  intro m meth c A g ig mk a X hg hsize hdg hW hn hp
  have h1 : (headSpec ws rm).pre.before a A.U = true := atoms_intro fun w hw => hws w hw _ _ X.warmed
  have h2 : (Cond.codeWith y bytes maxL ret hh).before a A.U = true := hws _ hcode _ _ X.warmed
  have h3 : (Cond.initialized y.cls).before a A.U = true := hinit _ _ X.warmed
  have h4 : A.cells + (headSpec ws rm).room.cells ≤ R.cells := by rw [show (headSpec ws rm).room.cells = mc from hrc]; exact hp.1
  have h5 : A.slots + (headSpec ws rm).room.slots ≤ R.slots := by rw [show (headSpec ws rm).room.slots = ms from hrs]; exact hp.2.1
  have hPc : Pc a (A.U.calling g mk a) := hblind _ _ _ _ hp.2.2
  obtain ⟨U, Ls, c0, s0⟩ := A
  dsimp only [Pt.U, Pt.locs, Pt.cells, Pt.slots] at h1 h2 h3 h4 h5 X hn hPc ⊢
  obtain ⟨m9, methY, cY, hn9, hmY, hcY, -, hlY, -⟩ := Cond.codeWith_spec h2
  cases Option.some.inj (hn9.symm.trans hn)
  obtain ⟨kY, hkY, -⟩ := className_of_methodNamed hn
  have hinitY : kY.init = .initialized := Cond.initialized_spec (findClass_of_methodNamed hn) hkY h3
  have h : At U g.method c below := by rw [hg]; exact X.here
  have hlocals9 : W9 + (maxL + 11) + (headSpec ws rm).room.locals ≤ R.locals := hlocals
  have happ : (headSpec ws rm).appliesLoose y e.platform (U.calling g mk a) = true :=
    Spec.appliesLoose_calling (g := g) h hdg hn hkY hinitY
      (X.room_calling (g := g) (R' := (headSpec ws rm).room) hsize hmY hcY hframes (by rw [hlY]; omega) h4 h5) h1
  obtain ⟨mid, hmid⟩ := h.above
  have hfr : (U.setTop g).frames = (.java g :: mid) ++ below := by rw [State.frames_setTop' g h.top, hmid]; rfl
  obtain ⟨o, s₂, hsteps, -, hend, hq⟩ := Steps.callFree hM p X.admits X.cas X.clock (acts := []) hfr happ hPc trivial
  have hq' : vx_Q Qc XC mc ms free a (U.calling g mk a) o s₂ := hq
  rw [State.frames_setTop' g h.top] at hend
  obtain ⟨g₀, hg0⟩ := Option.isSome_iff_exists.mp h.top
  obtain ⟨r, hr⟩ := State.topJava?_eq_some.mp hg0
  have hr' : (({ U with heap := s₂.heap, slotsUsed := s₂.slotsUsed } : State).setVm s₂.vm).frames = .java g₀ :: r := hr
  rcases hq' with ⟨hqc, L, hfe, hL⟩ | ⟨q, rfl, E, ce, L, hx, hce, hcv, hcl, hW₂, hsm, hL⟩
  · obtain ⟨⟨v, rfl⟩, hW₂, e2, q2, q3, q4, q5, q6⟩ := id hfe
    have e3 : s₂ = ({ (U.calling g mk a).setFrames s₂.frames with heap := s₂.heap, slotsUsed := s₂.slotsUsed } : State).setVm s₂.vm := by
      have : s₂ = ({ s₂ with vm := (U.calling g mk a).vm } : State).setVm s₂.vm := rfl
      rw [e2] at this
      exact this
    obtain ⟨c₂, i₂, len₂, hc₂, hd₂, hf₂⟩ := hend
    have hW' : U.WarmedH s₂.vm := hW₂
    have hcc : c₂ = c := by
      have h1 : s₂.code? g.method = U.code? g.method := by
        rw [State.code?_eq, State.code?_eq, hW'.alike.method?]
      exact Option.some.inj (hc₂.symm.trans (h1.trans h.code))
    subst hcc
    have hlen : len₂ = len := by rw [hdg] at hd₂; cases hd₂; rfl
    subst hlen
    have hs₂ : s₂ = (({ U with heap := s₂.heap, slotsUsed := s₂.slotsUsed } : State).setVm s₂.vm).setTop { g with pc := g.pc + len₂, stack := v.toList ++ g.stack } := by
      refine e3.trans ?_
      rw [hf₂, State.calling_eq h.top, State.setFrames_setFrames, State.setTop_of_frames _ hr', hr]
      rfl
    have hsame : U.sameButNew ({ U with heap := s₂.heap, slotsUsed := s₂.slotsUsed } : State) L mc ms := by
      refine ⟨?_, q2, q3, q4, q5, q6⟩
      obtain ⟨t, ht, -⟩ := State.frames_cons hr
      show ({ U with heap := s₂.heap, slotsUsed := s₂.slotsUsed } : State) = { U.setFrames U.frames with heap := s₂.heap, slotsUsed := s₂.slotsUsed }
      rw [State.setFrames_self ht]
    subst hg
    refine Or.inl ⟨v, ⟨(({ U with heap := s₂.heap, slotsUsed := s₂.slotsUsed } : State).setVm s₂.vm), Ls ++ L, c0 + mc, s0 + ms⟩,
      ⟨X.admits, X.cas, X.clock, X.frames, X.room, X.hears, X.method, X.code, (X.here.setHeapUsed s₂.heap s₂.slotsUsed).setVm hW'.alike, X.tail, State.WarmedH.trans X.warmed hW', X.limits, X.bytes, X.same.trans (hsame.setVm s.vm)⟩,
      ⟨g, mk, s₂, L, rfl, rfl, hqc, rfl, hL, rfl, rfl⟩, ?_⟩
    show Steps p.tables e below _ ((({ U with heap := s₂.heap, slotsUsed := s₂.slotsUsed } : State).setVm s₂.vm).setTop { g with pc := g.pc + len₂, stack := v.toList ++ g.stack })
    rw [← hs₂]
    exact hsteps
  · obtain ⟨e2, q2, q3, q4, q5, q6⟩ := id hsm
    have e3 : s₂ = ({ (U.calling g mk a).setFrames s₂.frames with heap := s₂.heap, slotsUsed := s₂.slotsUsed } : State).setVm s₂.vm := by
      have : s₂ = ({ s₂ with vm := (U.calling g mk a).vm } : State).setVm s₂.vm := rfl
      rw [e2] at this
      exact this
    have hf₂ : s₂.frames = .throwing q :: .java g :: U.frames.tail := hend
    have hW' : U.WarmedH s₂.vm := hW₂
    have hs₂ : s₂ = ((({ U with heap := s₂.heap, slotsUsed := s₂.slotsUsed } : State).setVm s₂.vm).setTop g).pushFrame (.throwing q) := by
      refine e3.trans ?_
      rw [hf₂, State.calling_eq h.top, State.setFrames_setFrames, State.pushFrame, State.frames_setTop _ hr', State.setTop_of_frames _ hr', State.setFrames_setFrames, hr]
      rfl
    have hsame : U.sameButNew ({ U with heap := s₂.heap, slotsUsed := s₂.slotsUsed } : State) L mc ms := by
      refine ⟨?_, q2, q3, q4, q5, q6⟩
      obtain ⟨t, ht, -⟩ := State.frames_cons hr
      show ({ U with heap := s₂.heap, slotsUsed := s₂.slotsUsed } : State) = { U.setFrames U.frames with heap := s₂.heap, slotsUsed := s₂.slotsUsed }
      rw [State.setFrames_self ht]
    subst hg
    refine Or.inr ⟨q, ⟨(({ U with heap := s₂.heap, slotsUsed := s₂.slotsUsed } : State).setVm s₂.vm), Ls ++ L, c0 + mc, s0 + ms⟩,
      ⟨X.admits, X.cas, X.clock, X.frames, X.room, X.hears, X.method, X.code, (X.here.setHeapUsed s₂.heap s₂.slotsUsed).setVm hW'.alike, X.tail, State.WarmedH.trans X.warmed hW', X.limits, X.bytes, X.same.trans (hsame.setVm s.vm)⟩,
      ⟨g, mk, s₂, L, E, ce, rfl, rfl, hx, hce, hcv, hcl, rfl, hL, rfl, rfl⟩, ?_⟩
    show Steps p.tables e below _ (((({ U with heap := s₂.heap, slotsUsed := s₂.slotsUsed } : State).setVm s₂.vm).setTop g).pushFrame (.throwing q))
    rw [← hs₂]
    exact hsteps
end
variable {p : Program} {l : Launch} {e : Env} {R : Room} {s : State} {m : MethodId} {args : Array Value} {below : List Frame} {meth : Method} {c : Code} {T : State} {H : Heap} {locs : List Loc} {cells slots : Nat}
theorem vx_callVX (X : Stand p l e R s m args below meth c T locs cells slots) (hexec : p.tables.exec = Jvm.exec) {own C : String} {index : Nat} {y : MethodName} {bytes : ByteArray} {maxL : Nat} {ret : Option FieldType} {hh : List (Nat × Nat × Nat × Nat)}
    (hown : s.vm.findClass own = some m.cls) (hlink : (Cond.methodLink own index y).before args s = true) (hinst : (Cond.instanceMethod y).before args s = true) (hsel : (Cond.selects C y y).before args s = true)
    (hcode : (Cond.codeWith y bytes maxL ret hh).before args s = true) (hy : y.cls ≠ "java/lang/invoke/MethodHandle" ∧ y.cls ≠ "java/lang/invoke/VarHandle")
    {W9 : Nat} {Pre : Pt → Array Value → Prop} {Post : Pt → Array Value → Option Value → Pt → Prop} {PostX : Pt → Array Value → Addr → Pt → Prop} (hK : vx_Back l R p e below s args y 3 W9 Pre Post PostX)
    {b : Addr} {cellB : Cell} (hcell : T.heap[b]? = some cellB) (hobj : cellB.vm.isStatics = false) (hcls : s.vm.findClass C = some cellB.cls)
    {g : JFrame} (hg : g.method = m) (hsize : g.locals.size = c.maxLocals) {argsL rest : List Value} (hlen : ∀ sig, parseMethodDescriptor y.desc = some sig → argsL.length = sig.parameters.length)
    (hstack : g.stack = argsL.reverse ++ .ref b :: rest) (hW : 2 * g.monitorRoom + (rest.map fun v => v.category).sum ≤ W9) (hdg : decode c.code g.pc = .ok (.invokevirtual index, 3))
    (hpre : ∀ vm₁, s.WarmedH vm₁ → Pre ⟨T.setVm vm₁, locs, cells, slots⟩ (Value.ref b :: argsL).toArray) :
    (∃ (v : Option Value) (vm₁ : Vm) (B : Pt), s.WarmedH vm₁ ∧ Stand p l e R s m args below meth c B.U B.locs B.cells B.slots ∧ Post ⟨T.setVm vm₁, locs, cells, slots⟩ (Value.ref b :: argsL).toArray v B ∧
      ∀ target, Steps p.tables e below (B.U.setTop { g with pc := g.pc + 3, stack := v.toList ++ rest }) target → Steps p.tables e below (T.setTop g) target) ∨
    (∃ (q : Addr) (vm₁ : Vm) (B : Pt), s.WarmedH vm₁ ∧ Stand p l e R s m args below meth c B.U B.locs B.cells B.slots ∧ PostX ⟨T.setVm vm₁, locs, cells, slots⟩ (Value.ref b :: argsL).toArray q B ∧
      Steps p.tables e below (T.setTop g) ((B.U.setTop { g with stack := rest }).pushFrame (.throwing q))) := by
  obtain ⟨mk, methM, hnamed, hmethM, hstM, habM⟩ := Cond.instanceMethod_spec hinst
  obtain ⟨m8, methM', cM, hn8, hmethM', -, -, -, -, -, -, hsigM⟩ := Cond.codeWith_spec hcode
  cases Option.some.inj (hn8.symm.trans hnamed)
  cases hmethM.symm.trans hmethM'
  obtain ⟨c2, r2, m2, q1, q2, q3, q4, kP, hkP, hkPi⟩ := Cond.selects_spec hsel
  cases hcls.symm.trans q1
  cases (State.methodFound?_of_named hnamed hy).symm.trans q2
  cases hnamed.symm.trans q3
  have hselP : selectMethod e.platform s.vm cellB.cls mk = .method mk := by rw [Launch.admits_selectMethod X.admits]; exact q4
  obtain ⟨vm₁, X₁, hstep₁⟩ := X.invokevirtual hexec hown hlink hnamed hmethM hstM hkP hkPi hy (a := b) (cell := cellB) hcell
    (fun z h => by rw [h] at hobj; cases hobj) hselP hmethM habM hkP hkPi (g := g) hg (argsL := argsL) (rest := rest) (hlen _ hsigM) hstack hdg
  rcases hK m meth c ⟨T.setVm vm₁, locs, cells, slots⟩ { g with stack := rest } (.invokevirtual index) mk (Value.ref b :: argsL).toArray X₁ hg hsize hdg hW (X₁.named hnamed) (hpre vm₁ X₁.warmed) with ⟨v, B, X', hpost, hsteps⟩ | ⟨q, B, X', hpost, hsteps⟩
  · exact Or.inl ⟨v, vm₁, B, X₁.warmed, X', hpost, fun target h => hstep₁ _ fun acts => by rw [doInvoke_state]; exact hsteps.trans h⟩
  · exact Or.inr ⟨q, vm₁, B, X₁.warmed, X', hpost, hstep₁ _ fun acts => by rw [doInvoke_state]; exact hsteps⟩
theorem vx_callSX (X : Stand p l e R s m args below meth c T locs cells slots) (hexec : p.tables.exec = Jvm.exec) {own : String} {index : Nat} {y : MethodName} {bytes : ByteArray} {maxL : Nat} {ret : Option FieldType} {hh : List (Nat × Nat × Nat × Nat)}
    (hown : s.vm.findClass own = some m.cls) (hlink : (Cond.methodLink own index y).before args s = true) (hstat : (Cond.static y).before args s = true) (hinit : (Cond.initialized y.cls).before args s = true)
    (hcode : (Cond.codeWith y bytes maxL ret hh).before args s = true) (hy : y.cls ≠ "java/lang/invoke/MethodHandle" ∧ y.cls ≠ "java/lang/invoke/VarHandle")
    {W9 : Nat} {Pre : Pt → Array Value → Prop} {Post : Pt → Array Value → Option Value → Pt → Prop} {PostX : Pt → Array Value → Addr → Pt → Prop} (hK : vx_Back l R p e below s args y 3 W9 Pre Post PostX)
    {g : JFrame} (hg : g.method = m) (hsize : g.locals.size = c.maxLocals) {argsL rest : List Value} (hlen : ∀ sig, parseMethodDescriptor y.desc = some sig → argsL.length = sig.parameters.length)
    (hstack : g.stack = argsL.reverse ++ rest) (hW : 2 * g.monitorRoom + (rest.map fun v => v.category).sum ≤ W9) (hdg : decode c.code g.pc = .ok (.invokestatic index, 3))
    (hpre : ∀ vm₁, s.WarmedH vm₁ → Pre ⟨T.setVm vm₁, locs, cells, slots⟩ argsL.toArray) :
    (∃ (v : Option Value) (vm₁ : Vm) (B : Pt), s.WarmedH vm₁ ∧ Stand p l e R s m args below meth c B.U B.locs B.cells B.slots ∧ Post ⟨T.setVm vm₁, locs, cells, slots⟩ argsL.toArray v B ∧
      ∀ target, Steps p.tables e below (B.U.setTop { g with pc := g.pc + 3, stack := v.toList ++ rest }) target → Steps p.tables e below (T.setTop g) target) ∨
    (∃ (q : Addr) (vm₁ : Vm) (B : Pt), s.WarmedH vm₁ ∧ Stand p l e R s m args below meth c B.U B.locs B.cells B.slots ∧ PostX ⟨T.setVm vm₁, locs, cells, slots⟩ argsL.toArray q B ∧
      Steps p.tables e below (T.setTop g) ((B.U.setTop { g with stack := rest }).pushFrame (.throwing q))) := by
  obtain ⟨mk, methM, cM, hnamed, hmethM, -, -, -, -, -, -, hsigM⟩ := Cond.codeWith_spec hcode
  have hstatic : methM.isStatic = true := Cond.static_spec hnamed hmethM hstat
  obtain ⟨kP, hkP, -⟩ := className_of_methodNamed hnamed
  have hinitP : kP.init = .initialized := Cond.initialized_spec (findClass_of_methodNamed hnamed) hkP hinit
  obtain ⟨vm₁, X₁, hstep₁⟩ := X.invokestatic hexec hown hlink hnamed hmethM hstatic hkP hinitP hy (g := g) hg (argsL := argsL) (rest := rest) (hlen _ hsigM) hstack hdg
  rcases hK m meth c ⟨T.setVm vm₁, locs, cells, slots⟩ { g with stack := rest } (.invokestatic index) mk argsL.toArray X₁ hg hsize hdg hW (X₁.named hnamed) (hpre vm₁ X₁.warmed) with ⟨v, B, X', hpost, hsteps⟩ | ⟨q, B, X', hpost, hsteps⟩
  · exact Or.inl ⟨v, vm₁, B, X₁.warmed, X', hpost, fun target h => hstep₁ _ fun acts => by rw [doInvoke_state]; exact hsteps.trans h⟩
  · exact Or.inr ⟨q, vm₁, B, X₁.warmed, X', hpost, hstep₁ _ fun acts => by rw [doInvoke_state]; exact hsteps⟩
theorem vx_callVW (X : Stand p l e R s m args below meth c T locs cells slots) (hexec : p.tables.exec = Jvm.exec) {own C : String} {index : Nat} {y : MethodName} {bytes : ByteArray} {maxL : Nat} {ret : Option FieldType} {hh : List (Nat × Nat × Nat × Nat)}
    (hown : s.vm.findClass own = some m.cls) (hlink : (Cond.methodLink own index y).before args s = true) (hinst : (Cond.instanceMethod y).before args s = true) (hsel : (Cond.selects C y y).before args s = true)
    (hcode : (Cond.codeWith y bytes maxL ret hh).before args s = true) (hy : y.cls ≠ "java/lang/invoke/MethodHandle" ∧ y.cls ≠ "java/lang/invoke/VarHandle")
    {W9 : Nat} {Pre : Pt → Array Value → Prop} {Post : Pt → Array Value → Option Value → Pt → Prop} (hK : Back l R p e below s args y 3 W9 Pre Post)
    {b : Addr} {cellB : Cell} (hcell : T.heap[b]? = some cellB) (hobj : cellB.vm.isStatics = false) (hcls : s.vm.findClass C = some cellB.cls)
    {g : JFrame} (hg : g.method = m) (hsize : g.locals.size = c.maxLocals) {argsL rest : List Value} (hlen : ∀ sig, parseMethodDescriptor y.desc = some sig → argsL.length = sig.parameters.length)
    (hstack : g.stack = argsL.reverse ++ .ref b :: rest) (hW : 2 * g.monitorRoom + (rest.map fun v => v.category).sum ≤ W9) (hdg : decode c.code g.pc = .ok (.invokevirtual index, 3))
    (hpre : ∀ vm₁, s.WarmedH vm₁ → Pre ⟨T.setVm vm₁, locs, cells, slots⟩ (Value.ref b :: argsL).toArray) :
    ∃ (v : Option Value) (vm₁ : Vm) (B : Pt), s.WarmedH vm₁ ∧ Stand p l e R s m args below meth c B.U B.locs B.cells B.slots ∧ Post ⟨T.setVm vm₁, locs, cells, slots⟩ (Value.ref b :: argsL).toArray v B ∧
      ∀ target, Steps p.tables e below (B.U.setTop { g with pc := g.pc + 3, stack := v.toList ++ rest }) target → Steps p.tables e below (T.setTop g) target := by
  obtain ⟨mk, methM, hnamed, hmethM, hstM, habM⟩ := Cond.instanceMethod_spec hinst
  obtain ⟨m8, methM', cM, hn8, hmethM', -, -, -, -, -, -, hsigM⟩ := Cond.codeWith_spec hcode
  cases Option.some.inj (hn8.symm.trans hnamed)
  cases hmethM.symm.trans hmethM'
  obtain ⟨c2, r2, m2, q1, q2, q3, q4, kP, hkP, hkPi⟩ := Cond.selects_spec hsel
  cases hcls.symm.trans q1
  cases (State.methodFound?_of_named hnamed hy).symm.trans q2
  cases hnamed.symm.trans q3
  have hselP : selectMethod e.platform s.vm cellB.cls mk = .method mk := by rw [Launch.admits_selectMethod X.admits]; exact q4
  obtain ⟨vm₁, X₁, hstep₁⟩ := X.invokevirtual hexec hown hlink hnamed hmethM hstM hkP hkPi hy (a := b) (cell := cellB) hcell
    (fun z h => by rw [h] at hobj; cases hobj) hselP hmethM habM hkP hkPi (g := g) hg (argsL := argsL) (rest := rest) (hlen _ hsigM) hstack hdg
  obtain ⟨v, B, X', hpost, hsteps⟩ := hK m meth c ⟨T.setVm vm₁, locs, cells, slots⟩ { g with stack := rest } (.invokevirtual index) mk (Value.ref b :: argsL).toArray X₁ hg hsize hdg hW (X₁.named hnamed) (hpre vm₁ X₁.warmed)
  exact ⟨v, vm₁, B, X₁.warmed, X', hpost, fun target h => hstep₁ _ fun acts => by rw [doInvoke_state]; exact hsteps.trans h⟩
abbrev vx_CVW (R : Room) (s : State) (args : Array Value) (own C : String) (index : Nat) (y : MethodName) (bytes : ByteArray) (maxL : Nat) (ret : Option FieldType) (hh : List (Nat × Nat × Nat × Nat)) (ws : List Cond) (rm : Room) (mc ms n : Nat) : Prop :=
  (rm.cells = mc ∧ rm.slots = ms ∧ rm.frames + 1 ≤ R.frames ∧ 8 + (maxL + 11) + rm.locals ≤ R.locals ∧ (∀ w ∈ ws, ∀ (a' : Array Value) (U : State), s.WarmedH U.vm → w.before a' U = true) ∧ Cond.codeWith y bytes maxL ret hh ∈ ws) ∧
  (Cond.codeWith y bytes maxL ret hh).before args s = true ∧ (Cond.initialized y.cls).before args s = true ∧ (y.cls ≠ "java/lang/invoke/MethodHandle" ∧ y.cls ≠ "java/lang/invoke/VarHandle") ∧
  (∀ sig, parseMethodDescriptor y.desc = some sig → n = sig.parameters.length) ∧ (Cond.methodLink own index y).before args s = true ∧ (Cond.instanceMethod y).before args s = true ∧ (Cond.selects C y y).before args s = true
theorem vx_cwVW {own C : String} {index maxL mc ms : Nat} {y : MethodName} {bytes : ByteArray} {ret : Option FieldType} {hh : List (Nat × Nat × Nat × Nat)} {Ts ws ws' : List Cond} {rm : Room} (n : Nat) (ht : ∀ w ∈ Ts, w.before args s = true) (hT : GoodIn Ts (wsV own index C y ws)) (hw : ws = Cond.codeWith y bytes maxL ret hh :: ws') (hrc : rm.cells = mc) (hrs : rm.slots = ms)
    (hd : y.cls = C ∧ y.cls ≠ "java/lang/invoke/MethodHandle" ∧ y.cls ≠ "java/lang/invoke/VarHandle" ∧ (parseMethodDescriptor y.desc).map (fun d => d.parameters.length) = some n) (hR : rm.frames + 1 ≤ R.frames ∧ 8 + (maxL + 11) + rm.locals ≤ R.locals) :
    vx_CVW R s args own C index y bytes maxL ret hh ws rm mc ms n := by
  obtain ⟨hC, hd⟩ := hd
  subst hC
  have ok : ∀ w ∈ wsV own index y.cls y ws, w.before args s = true := fun w h => ht w (hT w h).1
  have hG : GoodIn Ts ws := fun w h => hT w (by unfold wsV; exact List.mem_append_right _ h)
  have hc : Cond.codeWith y bytes maxL ret hh ∈ ws := by rw [hw]; exact List.mem_cons_self
  refine ⟨⟨hrc, hrs, hR.1, hR.2, pay_in ht hG, hc⟩, ht _ (hG _ hc).1, ok _ (by simp [wsV]), ⟨hd.1, hd.2.1⟩, fun sig h => ?_, ok _ (by simp [wsV]), ok _ (by simp [wsV]), ok _ (by simp [wsV])⟩
  have h2 := hd.2.2
  rw [h] at h2
  exact (Option.some.inj h2).symm
theorem vx_runVW {y : MethodName} {bytes cc : ByteArray} {maxL nL mc ms n index : Nat} {ret : Option FieldType} {hh : List (Nat × Nat × Nat × Nat)} {ws : List Cond} {rm : Room} {Pc : Array Value → State → Prop} {Qc : Array Value → State → Outcome → State → Prop} {free : Addr → Prop} {Ts : List Cond} {own C : String} {b : Addr} {As rest : List Value} {g : JFrame}
    (S : CallFix p m c cc nL s args Ts own) (hM : Met l y ws rm Pc Qc mc ms free) (cw : vx_CVW R s args own C index y bytes maxL ret hh ws rm mc ms n) (hp : PreV s H C b Pc As)
    (hg : g.method = m) (hn : As.length = n) (hsize : g.locals.size = nL) (hstack : g.stack = As.reverse ++ .ref b :: rest) (hW : 2 * g.monitorRoom + (rest.map fun v => v.category).sum ≤ 8) (hdg : decode cc g.pc = .ok (.invokevirtual index, 3)) (hf : cells + mc ≤ R.cells ∧ slots + ms ≤ R.slots) :
    va_Run p l e R s m args below meth c H locs cells slots mc ms g rest (Qc (Value.ref b :: As).toArray) free := by
  obtain ⟨⟨hrc, hrs, hfr, hlo, hws, hcw⟩, hcode, hini, hy, hlen, hl, hin, hse⟩ := cw
  have hK : Back l R p e below s args y 3 8 (PreOf R mc ms Pc) (PostOf Qc mc ms free) := va_backW (hh := hh) (bytes := bytes) (maxL := maxL) (ret := ret) hM hp.1 hrc hrs hfr hlo hws hcw (fun a' U hW => word_at hW (Or.inl (by first | rfl | simp [Cond.onTables, Cond.keeps, Cond.steady])) hini)
  obtain ⟨hx, hb, hml, ho, -⟩ := S
  obtain ⟨-, ⟨cellB, hcB, hoB, hclB⟩, hPc⟩ := hp
  intro T hT X
  obtain ⟨v, vm₁, ⟨U', l2, c2, s2⟩, hW₁, X', ⟨g', mk, t, L, e1, e2, hq, h1, hL, h2, h3⟩, st⟩ := vx_callVW X hx (C := C) (hh := hh) (bytes := bytes) (maxL := maxL) (ret := ret) ho hl hin hse hcode hy hK (by rw [hT]; exact hcB) hoB hclB hg (hsize.trans hml.symm) (argsL := As) (rest := rest) (fun sig h => hn.trans (hlen sig h)) hstack hW (by rw [hb]; exact hdg)
    (fun vm₁ hW₁ => ⟨hf.1, hf.2, hPc (T.setVm vm₁) hT hW₁⟩)
  dsimp only [Pt.U, Pt.locs, Pt.cells, Pt.slots] at X' e1 e2 h1 h2 h3 st
  subst h1; subst h2; subst h3
  exact ⟨v, (T.setVm vm₁).calling g' mk (Value.ref b :: As).toArray, t, U', L, hT, X', hL, e1, e2, hq, st⟩
section
variable {y : MethodName} {bytes cc : ByteArray} {maxL nL mc ms n index : Nat} {ret : Option FieldType} {ws : List Cond} {rm : Room} {Pc : Array Value → State → Prop} {Qc : Array Value → State → Outcome → State → Prop} {XC : String → State → State → Prop} {free : Addr → Prop} {Ts : List Cond} {own C : String} {b : Addr} {As rest : List Value} {g : JFrame}
theorem vx_runVX {hh : List (Nat × Nat × Nat × Nat)} (S : CallFix p m c cc nL s args Ts own) (hM : vx_Met l y ws rm Pc Qc XC mc ms free) (cw : vx_CVW R s args own C index y bytes maxL ret hh ws rm mc ms n) (hp : PreV s H C b Pc As)
    (hg : g.method = m) (hn : As.length = n) (hsize : g.locals.size = nL) (hstack : g.stack = As.reverse ++ .ref b :: rest) (hW : 2 * g.monitorRoom + (rest.map fun v => v.category).sum ≤ 8) (hdg : decode cc g.pc = .ok (.invokevirtual index, 3)) (hf : cells + mc ≤ R.cells ∧ slots + ms ≤ R.slots) :
    vx_Run p l e R s m args below meth c H locs cells slots mc ms g rest (Qc (Value.ref b :: As).toArray) XC free := by
  obtain ⟨⟨hrc, hrs, hfr, hlo, hws, hcw⟩, hcode, hini, hy, hlen, hl, hin, hse⟩ := cw
  have hK : vx_Back l R p e below s args y 3 8 (PreOf R mc ms Pc) (PostOf Qc mc ms free) (vx_Post XC mc ms free) := vx_backW (hh := hh) (bytes := bytes) (maxL := maxL) (ret := ret) hM hp.1 hrc hrs hfr hlo hws hcw (fun a' U hW => word_at hW (Or.inl (by first | rfl | simp [Cond.onTables, Cond.keeps, Cond.steady])) hini)
  obtain ⟨hx, hb, hml, ho, -⟩ := S
  obtain ⟨-, ⟨cellB, hcB, hoB, hclB⟩, hPc⟩ := hp
  intro T hT X
  rcases vx_callVX X hx (C := C) (hh := hh) (bytes := bytes) (maxL := maxL) (ret := ret) ho hl hin hse hcode hy hK (by rw [hT]; exact hcB) hoB hclB hg (hsize.trans hml.symm) (argsL := As) (rest := rest) (fun sig h => hn.trans (hlen sig h)) hstack hW (by rw [hb]; exact hdg)
    (fun vm₁ hW₁ => ⟨hf.1, hf.2, hPc (T.setVm vm₁) hT hW₁⟩) with ⟨v, vm₁, ⟨U', l2, c2, s2⟩, hW₁, X', ⟨g', mk, t, L, e1, e2, hq, h1, hL, h2, h3⟩, st⟩ | ⟨q, vm₁, ⟨U', l2, c2, s2⟩, hW₁, X', ⟨g', mk, t, L, E, ce, e1, e2, hq, hce, hcv, hcl, h1, hL, h2, h3⟩, st⟩
  · dsimp only [Pt.U, Pt.locs, Pt.cells, Pt.slots] at X' e1 e2 h1 h2 h3 st
    subst h1; subst h2; subst h3
    exact Or.inl ⟨v, (T.setVm vm₁).calling g' mk (Value.ref b :: As).toArray, t, U', L, hT, X', hL, e1, e2, hq, st⟩
  · dsimp only [Pt.U, Pt.locs, Pt.cells, Pt.slots] at X' e1 e2 h1 h2 h3 st hcl
    subst h1; subst h2; subst h3
    exact Or.inr ⟨q, (T.setVm vm₁).calling g' mk (Value.ref b :: As).toArray, t, U', L, E, ce, hT, X', hL, e1, e2, hq, hce, hcv, vx_cls hW₁ hcl, st⟩
theorem vx_runSX {hh : List (Nat × Nat × Nat × Nat)} (S : CallFix p m c cc nL s args Ts own) (hM : vx_Met l y ws rm Pc Qc XC mc ms free) (cw : vx_CSW R s args own index y bytes maxL ret hh ws rm mc ms n) (hp : PreS s H Pc As)
    (hg : g.method = m) (hn : As.length = n) (hsize : g.locals.size = nL) (hstack : g.stack = As.reverse ++ rest) (hW : 2 * g.monitorRoom + (rest.map fun v => v.category).sum ≤ 8) (hdg : decode cc g.pc = .ok (.invokestatic index, 3)) (hf : cells + mc ≤ R.cells ∧ slots + ms ≤ R.slots) :
    vx_Run p l e R s m args below meth c H locs cells slots mc ms g rest (Qc As.toArray) XC free := by
  obtain ⟨⟨hrc, hrs, hfr, hlo, hws, hcw⟩, hcode, hini, hy, hlen, hl, hstt⟩ := cw
  have hK : vx_Back l R p e below s args y 3 8 (PreOf R mc ms Pc) (PostOf Qc mc ms free) (vx_Post XC mc ms free) := vx_backW (hh := hh) (bytes := bytes) (maxL := maxL) (ret := ret) hM hp.1 hrc hrs hfr hlo hws hcw (fun a' U hW => word_at hW (Or.inl (by first | rfl | simp [Cond.onTables, Cond.keeps, Cond.steady])) hini)
  obtain ⟨hx, hb, hml, ho, -⟩ := S
  intro T hT X
  rcases vx_callSX X hx (hh := hh) (bytes := bytes) (maxL := maxL) (ret := ret) ho hl hstt hini hcode hy hK hg (hsize.trans hml.symm) (argsL := As) (rest := rest) (fun sig h => hn.trans (hlen sig h)) hstack hW (by rw [hb]; exact hdg)
    (fun vm₁ hW₁ => ⟨hf.1, hf.2, hp.2 (T.setVm vm₁) hT hW₁⟩) with ⟨v, vm₁, ⟨U', l2, c2, s2⟩, hW₁, X', ⟨g', mk, t, L, e1, e2, hq, h1, hL, h2, h3⟩, st⟩ | ⟨q, vm₁, ⟨U', l2, c2, s2⟩, hW₁, X', ⟨g', mk, t, L, E, ce, e1, e2, hq, hce, hcv, hcl, h1, hL, h2, h3⟩, st⟩
  · dsimp only [Pt.U, Pt.locs, Pt.cells, Pt.slots] at X' e1 e2 h1 h2 h3 st
    subst h1; subst h2; subst h3
    exact Or.inl ⟨v, (T.setVm vm₁).calling g' mk As.toArray, t, U', L, hT, X', hL, e1, e2, hq, st⟩
  · dsimp only [Pt.U, Pt.locs, Pt.cells, Pt.slots] at X' e1 e2 h1 h2 h3 st hcl
    subst h1; subst h2; subst h3
    exact Or.inr ⟨q, (T.setVm vm₁).calling g' mk As.toArray, t, U', L, E, ce, hT, X', hL, e1, e2, hq, hce, hcv, vx_cls hW₁ hcl, st⟩
end
end VXH
theorem vx_ofWH {l : Launch} {y : MethodName} {ws ws' : List Cond} {rm : Room} {Pc : Array Value → State → Prop} {Qc : Array Value → State → Outcome → State → Prop} {XC : String → State → State → Prop} {mc ms : Nat} {free : Addr → Prop} {cc : ByteArray} {maxL : Nat} {ret : Option FieldType} {hh : List (Nat × Nat × Nat × Nat)}
    (hy : plainName y.cls = true) (hw : ws = Cond.codeWith y cc maxL ret hh :: ws')
    (body : ∀ p e s m args below meth c s₁, BodyLoose p l y (headSpec ws rm) cc maxL ret e s m args below meth c s₁ → c.maxLocals = maxL → Pc args s →
      W p l e (headSpec ws rm).room s m args below meth c s.heap [] 0 0 (vx_MQ below Qc XC args s mc ms free) (entryFrame m args maxL)) : vx_Met l y ws rm Pc Qc XC mc ms free := by
  refine MetFree.of_bodyS (code := cc) (maxLocals := maxL) (ret := ret) hy ?_ ?_
  · intro args s m h hn
    obtain ⟨m9, meth, c, hn9, h1, h2, h3, h4, -, h5, h6, -⟩ := Cond.codeWith_spec (atoms_spec (ws := ws) h _ (by rw [hw]; exact List.mem_cons_self))
    cases hn.symm.trans hn9
    exact ⟨meth, c, h1, h2, h3, h4, h5, h6⟩
  · intro p e s m args below meth c s₁ B hml hP _
    have hh0 : s₁.heap = s.heap := by rw [B.state]; rfl
    obtain ⟨t, a1, o, b1, b2, b3⟩ := body p e s m args below meth c s₁ B hml hP s₁ hh0 (Stand.of_body B)
    exact ⟨t, o, a1, b1, b2, b3⟩
/-! ===== END ===== -/
end
section
/-! ===== BEGIN printed: names, fields, word lists, decode rows ===== -/
def RX0 : String := "ReplicaHeap$Log"
def TX0 : u_T := fun k => match k with
  | 0 => ("ReplicaHeap$Log", "places", "[I", true)
  | 1 => ("ReplicaHeap$Log", "fields", "[I", true)
  | 2 => ("ReplicaHeap$Log", "size", "I", false)
  | _ => ("ReplicaHeap$Log", "taken", "I", false)
def tyX0 : Nat → FieldType := fun k => match k with
  | 0 => .array .int
  | 1 => .array .int
  | 2 => .int
  | _ => .int
abbrev wsX00 : List Cond := u_ws RX0 TX0 4
theorem nmX0 : ∀ a, a < 4 → ∀ b, b < 4 → a ≠ b → (TX0 a).2.1 ≠ (TX0 b).2.1 := by decide +kernel
theorem tyX0_ok : ∀ k, k < 4 → parseFieldDescriptor (TX0 k).2.2.1 = some (tyX0 k) := by decide +kernel
abbrev cX0_init : ByteArray := prog_2_method_1_code
def yX0_init : MethodName := ⟨RX0, "<init>", "()V"⟩
abbrev cX0_add : ByteArray := prog_2_method_2_code
def yX0_add : MethodName := ⟨RX0, "add", "(II)V"⟩
abbrev cX0_clear : ByteArray := prog_2_method_3_code
def yX0_clear : MethodName := ⟨RX0, "clear", "()V"⟩
def RX1 : String := "ReplicaHeap$Space"
def TX1 : u_T := fun k => match k with
  | 0 => ("ReplicaHeap$Space", "index", "I", true)
  | 1 => ("ReplicaHeap$Space", "kinds", "[I", true)
  | 2 => ("ReplicaHeap$Space", "values", "[I", true)
  | 3 => ("ReplicaHeap$Space", "replicas", "[I", true)
  | _ => ("ReplicaHeap$Space", "used", "I", false)
def tyX1 : Nat → FieldType := fun k => match k with
  | 0 => .int
  | 1 => .array .int
  | 2 => .array .int
  | 3 => .array .int
  | _ => .int
abbrev wsX10 : List Cond := u_ws RX1 TX1 5
theorem nmX1 : ∀ a, a < 5 → ∀ b, b < 5 → a ≠ b → (TX1 a).2.1 ≠ (TX1 b).2.1 := by decide +kernel
theorem tyX1_ok : ∀ k, k < 5 → parseFieldDescriptor (TX1 k).2.2.1 = some (tyX1 k) := by decide +kernel
abbrev cX1_init : ByteArray := prog_3_method_1_code
def yX1_init : MethodName := ⟨RX1, "<init>", "(II)V"⟩
abbrev cX1_hasRoom : ByteArray := prog_3_method_2_code
def yX1_hasRoom : MethodName := ⟨RX1, "hasRoom", "(I)Z"⟩
abbrev cX1_layObject : ByteArray := prog_3_method_3_code
def yX1_layObject : MethodName := ⟨RX1, "layObject", "(I)I"⟩
abbrev cX1_setCell : ByteArray := prog_3_method_4_code
def yX1_setCell : MethodName := ⟨RX1, "setCell", "(III)V"⟩
def RX2 : String := "ReplicaHeap"
def TX2 : u_T := fun k => match k with
  | 0 => ("ReplicaHeap", "cells", "I", true)
  | 1 => ("ReplicaHeap", "quantum", "I", true)
  | 2 => ("ReplicaHeap", "rootRefers", "[Z", true)
  | 3 => ("ReplicaHeap", "rootValues", "[I", true)
  | 4 => ("ReplicaHeap", "log", "LReplicaHeap$Log;", true)
  | 5 => ("ReplicaHeap", "current", "LReplicaHeap$Space;", false)
  | 6 => ("ReplicaHeap", "other", "LReplicaHeap$Space;", false)
  | 7 => ("ReplicaHeap", "running", "Z", false)
  | 8 => ("ReplicaHeap", "scan", "I", false)
  | 9 => ("ReplicaHeap", "flips", "I", false)
  | 10 => ("ReplicaHeap", "pauses", "I", false)
  | 11 => ("ReplicaHeap", "made", "I", false)
  | 12 => ("ReplicaHeap", "unitsSoFar", "I", false)
  | 13 => ("ReplicaHeap", "unitsOfCall", "I", false)
  | _ => ("ReplicaHeap", "mostUnits", "I", false)
def tyX2 : Nat → FieldType := fun k => match k with
  | 0 => .int
  | 1 => .int
  | 2 => .array .boolean
  | 3 => .array .int
  | 4 => .object "ReplicaHeap$Log"
  | 5 => .object "ReplicaHeap$Space"
  | 6 => .object "ReplicaHeap$Space"
  | 7 => .boolean
  | 8 => .int
  | 9 => .int
  | 10 => .int
  | 11 => .int
  | 12 => .int
  | 13 => .int
  | _ => .int
abbrev wsX20 : List Cond := u_ws RX2 TX2 15
theorem nmX2 : ∀ a, a < 15 → ∀ b, b < 15 → a ≠ b → (TX2 a).2.1 ≠ (TX2 b).2.1 := by decide +kernel
theorem tyX2_ok : ∀ k, k < 15 → parseFieldDescriptor (TX2 k).2.2.1 = some (tyX2 k) := by decide +kernel
abbrev cX2_init : ByteArray := prog_1_method_1_code
def yX2_init : MethodName := ⟨RX2, "<init>", "(II)V"⟩
abbrev cX2_alloc : ByteArray := prog_1_method_2_code
def yX2_alloc : MethodName := ⟨RX2, "alloc", "(II)Z"⟩
abbrev cX2_put : ByteArray := prog_1_method_3_code
def yX2_put : MethodName := ⟨RX2, "put", "(III)V"⟩
abbrev cX2_putNumber : ByteArray := prog_1_method_4_code
def yX2_putNumber : MethodName := ⟨RX2, "putNumber", "(III)V"⟩
abbrev cX2_get : ByteArray := prog_1_method_5_code
def yX2_get : MethodName := ⟨RX2, "get", "(III)V"⟩
abbrev cX2_move : ByteArray := prog_1_method_6_code
def yX2_move : MethodName := ⟨RX2, "move", "(II)Z"⟩
abbrev cX2_number : ByteArray := prog_1_method_7_code
def yX2_number : MethodName := ⟨RX2, "number", "(II)Z"⟩
abbrev cX2_collect : ByteArray := prog_1_method_8_code
def yX2_collect : MethodName := ⟨RX2, "collect", "(I)I"⟩
abbrev cX2_look : ByteArray := prog_1_method_9_code
def yX2_look : MethodName := ⟨RX2, "look", "(II)I"⟩
abbrev cX2_field : ByteArray := prog_1_method_10_code
def yX2_field : MethodName := ⟨RX2, "field", "(III)I"⟩
abbrev cX2_cell : ByteArray := prog_1_method_11_code
def yX2_cell : MethodName := ⟨RX2, "cell", "(III)I"⟩
abbrev cX2_entry : ByteArray := prog_1_method_12_code
def yX2_entry : MethodName := ⟨RX2, "entry", "(II)I"⟩
abbrev cX2_count : ByteArray := prog_1_method_13_code
def yX2_count : MethodName := ⟨RX2, "count", "(I)I"⟩
abbrev cX2_isRoot : ByteArray := prog_1_method_14_code
def yX2_isRoot : MethodName := ⟨RX2, "isRoot", "(I)Z"⟩
abbrev cX2_hasField : ByteArray := prog_1_method_15_code
def yX2_hasField : MethodName := ⟨RX2, "hasField", "(II)Z"⟩
abbrev cX2_setRoot : ByteArray := prog_1_method_16_code
def yX2_setRoot : MethodName := ⟨RX2, "setRoot", "(IZI)V"⟩
abbrev cX2_makeRoom : ByteArray := prog_1_method_17_code
def yX2_makeRoom : MethodName := ⟨RX2, "makeRoom", "(I)V"⟩
abbrev cX2_change : ByteArray := prog_1_method_18_code
def yX2_change : MethodName := ⟨RX2, "change", "(IIII)V"⟩
abbrev cX2_work : ByteArray := prog_1_method_19_code
def yX2_work : MethodName := ⟨RX2, "work", "(I)V"⟩
abbrev cX2_step : ByteArray := prog_1_method_20_code
def yX2_step : MethodName := ⟨RX2, "step", "()I"⟩
abbrev cX2_takeEntry : ByteArray := prog_1_method_21_code
def yX2_takeEntry : MethodName := ⟨RX2, "takeEntry", "()I"⟩
abbrev cX2_forward : ByteArray := prog_1_method_22_code
def yX2_forward : MethodName := ⟨RX2, "forward", "(I)I"⟩
abbrev cX2_replicate : ByteArray := prog_1_method_23_code
def yX2_replicate : MethodName := ⟨RX2, "replicate", "(I)I"⟩
abbrev cX2_rootWithoutReplica : ByteArray := prog_1_method_24_code
def yX2_rootWithoutReplica : MethodName := ⟨RX2, "rootWithoutReplica", "()I"⟩
abbrev cX2_flip : ByteArray := prog_1_method_25_code
def yX2_flip : MethodName := ⟨RX2, "flip", "()V"⟩
def RX3 : String := "ReplicaHeapModel"
def TX3 : u_T := fun k => match k with
  | 0 => ("ReplicaHeapModel", "thrown", "I", false)
  | 1 => ("ReplicaHeapModel", "cells", "I", true)
  | 2 => ("ReplicaHeapModel", "quantum", "I", true)
  | 3 => ("ReplicaHeapModel", "kind", "[I", true)
  | 4 => ("ReplicaHeapModel", "has", "[I", true)
  | 5 => ("ReplicaHeapModel", "replica", "[I", true)
  | 6 => ("ReplicaHeapModel", "used", "[I", true)
  | 7 => ("ReplicaHeapModel", "now", "I", false)
  | 8 => ("ReplicaHeapModel", "refers", "[Z", true)
  | 9 => ("ReplicaHeapModel", "root", "[I", true)
  | 10 => ("ReplicaHeapModel", "running", "Z", false)
  | 11 => ("ReplicaHeapModel", "scan", "I", false)
  | 12 => ("ReplicaHeapModel", "logged", "I", false)
  | 13 => ("ReplicaHeapModel", "taken", "I", false)
  | 14 => ("ReplicaHeapModel", "logPlace", "[I", true)
  | 15 => ("ReplicaHeapModel", "logField", "[I", true)
  | 16 => ("ReplicaHeapModel", "flips", "I", false)
  | 17 => ("ReplicaHeapModel", "pauses", "I", false)
  | 18 => ("ReplicaHeapModel", "units", "I", false)
  | 19 => ("ReplicaHeapModel", "most", "I", false)
  | 20 => ("ReplicaHeapModel", "made", "I", false)
  | _ => ("ReplicaHeapModel", "before", "I", false)
def tyX3 : Nat → FieldType := fun k => match k with
  | 0 => .int
  | 1 => .int
  | 2 => .int
  | 3 => .array .int
  | 4 => .array .int
  | 5 => .array .int
  | 6 => .array .int
  | 7 => .int
  | 8 => .array .boolean
  | 9 => .array .int
  | 10 => .boolean
  | 11 => .int
  | 12 => .int
  | 13 => .int
  | 14 => .array .int
  | 15 => .array .int
  | 16 => .int
  | 17 => .int
  | 18 => .int
  | 19 => .int
  | 20 => .int
  | _ => .int
abbrev wsX30 : List Cond := u_ws RX3 TX3 22
theorem nmX3 : ∀ a, a < 22 → ∀ b, b < 22 → a ≠ b → (TX3 a).2.1 ≠ (TX3 b).2.1 := by decide +kernel
theorem tyX3_ok : ∀ k, k < 22 → parseFieldDescriptor (TX3 k).2.2.1 = some (tyX3 k) := by decide +kernel
abbrev cX3_init : ByteArray := prog_5_method_1_code
def yX3_init : MethodName := ⟨RX3, "<init>", "(II)V"⟩
abbrev cX3_thrown : ByteArray := prog_5_method_2_code
def yX3_thrown : MethodName := ⟨RX3, "thrown", "()I"⟩
abbrev cX3_other : ByteArray := prog_5_method_3_code
def yX3_other : MethodName := ⟨RX3, "other", "()I"⟩
abbrev cX3_at : ByteArray := prog_5_method_4_code
def yX3_at : MethodName := ⟨RX3, "at", "(II)I"⟩
abbrev cX3_replicate : ByteArray := prog_5_method_5_code
def yX3_replicate : MethodName := ⟨RX3, "replicate", "(I)I"⟩
abbrev cX3_refer : ByteArray := prog_5_method_6_code
def yX3_refer : MethodName := ⟨RX3, "refer", "(II)I"⟩
abbrev cX3_take : ByteArray := prog_5_method_7_code
def yX3_take : MethodName := ⟨RX3, "take", "()I"⟩
abbrev cX3_look : ByteArray := prog_5_method_8_code
def yX3_look : MethodName := ⟨RX3, "look", "()I"⟩
abbrev cX3_nextRoot : ByteArray := prog_5_method_9_code
def yX3_nextRoot : MethodName := ⟨RX3, "nextRoot", "()I"⟩
abbrev cX3_flip : ByteArray := prog_5_method_10_code
def yX3_flip : MethodName := ⟨RX3, "flip", "()I"⟩
abbrev cX3_step : ByteArray := prog_5_method_11_code
def yX3_step : MethodName := ⟨RX3, "step", "()I"⟩
abbrev cX3_work : ByteArray := prog_5_method_12_code
def yX3_work : MethodName := ⟨RX3, "work", "(I)I"⟩
abbrev cX3_begin : ByteArray := prog_5_method_13_code
def yX3_begin : MethodName := ⟨RX3, "begin", "()V"⟩
abbrev cX3_open : ByteArray := prog_5_method_14_code
def yX3_open : MethodName := ⟨RX3, "open", "()V"⟩
abbrev cX3_close : ByteArray := prog_5_method_15_code
def yX3_close : MethodName := ⟨RX3, "close", "()V"⟩
abbrev cX3_isRoot : ByteArray := prog_5_method_16_code
def yX3_isRoot : MethodName := ⟨RX3, "isRoot", "(I)Z"⟩
abbrev cX3_has : ByteArray := prog_5_method_17_code
def yX3_has : MethodName := ⟨RX3, "has", "(I)Z"⟩
abbrev cX3_pause : ByteArray := prog_5_method_18_code
def yX3_pause : MethodName := ⟨RX3, "pause", "()V"⟩
abbrev cX3_alloc : ByteArray := prog_5_method_19_code
def yX3_alloc : MethodName := ⟨RX3, "alloc", "(II)Z"⟩
abbrev cX3_hasField : ByteArray := prog_5_method_20_code
def yX3_hasField : MethodName := ⟨RX3, "hasField", "(II)Z"⟩
abbrev cX3_change : ByteArray := prog_5_method_21_code
def yX3_change : MethodName := ⟨RX3, "change", "(IIII)V"⟩
abbrev cX3_put : ByteArray := prog_5_method_22_code
def yX3_put : MethodName := ⟨RX3, "put", "(III)V"⟩
abbrev cX3_putNumber : ByteArray := prog_5_method_23_code
def yX3_putNumber : MethodName := ⟨RX3, "putNumber", "(III)V"⟩
abbrev cX3_get : ByteArray := prog_5_method_24_code
def yX3_get : MethodName := ⟨RX3, "get", "(III)V"⟩
abbrev cX3_move : ByteArray := prog_5_method_25_code
def yX3_move : MethodName := ⟨RX3, "move", "(II)Z"⟩
abbrev cX3_number : ByteArray := prog_5_method_26_code
def yX3_number : MethodName := ⟨RX3, "number", "(II)Z"⟩
abbrev cX3_collect : ByteArray := prog_5_method_27_code
def yX3_collect : MethodName := ⟨RX3, "collect", "(I)I"⟩
abbrev cX3_look_ : ByteArray := prog_5_method_28_code
def yX3_look_ : MethodName := ⟨RX3, "look", "(II)I"⟩
abbrev cX3_field : ByteArray := prog_5_method_29_code
def yX3_field : MethodName := ⟨RX3, "field", "(III)I"⟩
abbrev cX3_cell : ByteArray := prog_5_method_30_code
def yX3_cell : MethodName := ⟨RX3, "cell", "(III)I"⟩
abbrev cX3_entry : ByteArray := prog_5_method_31_code
def yX3_entry : MethodName := ⟨RX3, "entry", "(II)I"⟩
abbrev cX3_count : ByteArray := prog_5_method_32_code
def yX3_count : MethodName := ⟨RX3, "count", "(I)I"⟩
def RJ9 : String := "java/lang/Math"
def TJ9 : u_T := fun k => match k with
  | _ => ("", "", "", false)
def tyJ9 : Nat → FieldType := fun k => match k with
  | _ => .int
abbrev wsJ90 : List Cond := u_ws RJ9 TJ9 0
theorem nmJ9 : ∀ a, a < 0 → ∀ b, b < 0 → a ≠ b → (TJ9 a).2.1 ≠ (TJ9 b).2.1 := by decide +kernel
theorem tyJ9_ok : ∀ k, k < 0 → parseFieldDescriptor (TJ9 k).2.2.1 = some (tyJ9 k) := by decide +kernel
abbrev cJ9_max_7cf53 : ByteArray := prog_10_method_65_code
def yJ9_max_7cf53 : MethodName := ⟨RJ9, "max", "(II)I"⟩
def RL : String := "ReplicaHeapLaw"
abbrev cL_cell : ByteArray := method_2_code
def yL_cell : MethodName := ⟨RL, "cell", "([II)I"⟩
abbrev cL_alloc : ByteArray := method_3_code
def yL_alloc : MethodName := ⟨RL, "alloc", "(LReplicaHeap;II[J)I"⟩
abbrev cL_put : ByteArray := method_4_code
def yL_put : MethodName := ⟨RL, "put", "(LReplicaHeap;III)I"⟩
abbrev cL_putNumber : ByteArray := method_5_code
def yL_putNumber : MethodName := ⟨RL, "putNumber", "(LReplicaHeap;III)I"⟩
abbrev cL_get : ByteArray := method_6_code
def yL_get : MethodName := ⟨RL, "get", "(LReplicaHeap;III)I"⟩
abbrev cL_collect : ByteArray := method_7_code
def yL_collect : MethodName := ⟨RL, "collect", "(LReplicaHeap;I[J)I"⟩
abbrev cL_look : ByteArray := method_8_code
def yL_look : MethodName := ⟨RL, "look", "(LReplicaHeap;II[J)I"⟩
abbrev cL_field : ByteArray := method_9_code
def yL_field : MethodName := ⟨RL, "field", "(LReplicaHeap;III[J)I"⟩
abbrev cL_cell_ : ByteArray := method_10_code
def yL_cell_ : MethodName := ⟨RL, "cell", "(LReplicaHeap;III[J)I"⟩
abbrev cL_entry : ByteArray := method_11_code
def yL_entry : MethodName := ⟨RL, "entry", "(LReplicaHeap;II[J)I"⟩
abbrev cL_law : ByteArray := code
def yL_law : MethodName := ⟨RL, "law", "([I)Z"⟩
def wsX0_init : List Cond := .code yX0_init cX0_init 1 none :: ([.methodLink RX0 3 objectInit, .instanceMethod objectInit, .code objectInit ⟨#[0xb1]⟩ 1 none, .arrayClass .int, .fieldLink RX0 9 "ReplicaHeap$Log" "places" "[I", .fieldLink RX0 15 "ReplicaHeap$Log" "fields" "[I"] ++ wsX00)
def wsX0_clear : List Cond := .code yX0_clear cX0_clear 1 none :: ([.fieldLink RX0 18 "ReplicaHeap$Log" "size" "I", .fieldLink RX0 25 "ReplicaHeap$Log" "taken" "I"] ++ wsX00)
def wsX0_add : List Cond := .code yX0_add cX0_add 3 none :: ([.fieldLink RX0 18 "ReplicaHeap$Log" "size" "I", .fieldLink RX0 9 "ReplicaHeap$Log" "places" "[I", .fieldLink RX0 15 "ReplicaHeap$Log" "fields" "[I", .methodLink RX0 22 yX0_clear, .instanceMethod yX0_clear, .selects RX0 yX0_clear yX0_clear, .initialized RX0, .code yX0_clear cX0_clear 1 none, .fieldLink RX0 25 "ReplicaHeap$Log" "taken" "I"] ++ wsX00)
def wsX1_init : List Cond := .code yX1_init cX1_init 3 none :: ([.methodLink RX1 3 objectInit, .instanceMethod objectInit, .code objectInit ⟨#[0xb1]⟩ 1 none, .fieldLink RX1 9 "ReplicaHeap$Space" "index" "I", .arrayClass .int, .fieldLink RX1 15 "ReplicaHeap$Space" "kinds" "[I", .fieldLink RX1 19 "ReplicaHeap$Space" "values" "[I", .fieldLink RX1 22 "ReplicaHeap$Space" "replicas" "[I"] ++ wsX10)
def wsX1_hasRoom : List Cond := .code yX1_hasRoom cX1_hasRoom 2 (some .boolean) :: ([.fieldLink RX1 25 "ReplicaHeap$Space" "used" "I", .fieldLink RX1 15 "ReplicaHeap$Space" "kinds" "[I"] ++ wsX10)
def wsX1_setCell : List Cond := .code yX1_setCell cX1_setCell 4 none :: ([.fieldLink RX1 15 "ReplicaHeap$Space" "kinds" "[I", .fieldLink RX1 19 "ReplicaHeap$Space" "values" "[I"] ++ wsX10)
def wsX1_layObject : List Cond := .code yX1_layObject cX1_layObject 4 (some .int) :: ([.fieldLink RX1 25 "ReplicaHeap$Space" "used" "I", .fieldLink RX1 22 "ReplicaHeap$Space" "replicas" "[I", .methodLink RX1 28 yX1_setCell, .instanceMethod yX1_setCell, .selects RX1 yX1_setCell yX1_setCell, .initialized RX1, .code yX1_setCell cX1_setCell 4 none, .fieldLink RX1 15 "ReplicaHeap$Space" "kinds" "[I", .fieldLink RX1 19 "ReplicaHeap$Space" "values" "[I"] ++ wsX10)
def wsX2_init_r1 : List Cond := [Cond.methodLink RX2 1 objectInit, Cond.instanceMethod objectInit, Cond.code objectInit ⟨#[0xb1]⟩ 1 none, Cond.arrayClass .boolean, Cond.fieldLink RX2 9 "ReplicaHeap" "rootRefers" "[Z", Cond.arrayClass .int, Cond.fieldLink RX2 13 "ReplicaHeap" "rootValues" "[I", Cond.classLink RX2 17 RX0, Cond.instantiable RX0 4, Cond.initialized RX0, Cond.fieldLink RX2 20 "ReplicaHeap" "log" "LReplicaHeap$Log;", Cond.fieldLink RX2 24 "ReplicaHeap" "cells" "I", Cond.fieldLink RX2 28 "ReplicaHeap" "quantum" "I", Cond.classLink RX2 31 RX1, Cond.instantiable RX1 5, Cond.initialized RX1, Cond.fieldLink RX2 36 "ReplicaHeap" "current" "LReplicaHeap$Space;", Cond.fieldLink RX2 40 "ReplicaHeap" "other" "LReplicaHeap$Space;", Cond.instanceMethod yX0_init, Cond.code yX0_init cX0_init 1 none, Cond.methodLink RX0 3 objectInit, Cond.fieldLink RX0 9 "ReplicaHeap$Log" "places" "[I", Cond.fieldLink RX0 15 "ReplicaHeap$Log" "fields" "[I", Cond.instanceMethod yX1_init]
def wsX2_init_r2 : List Cond := [Cond.code yX1_init cX1_init 3 none, Cond.methodLink RX1 3 objectInit, Cond.fieldLink RX1 9 "ReplicaHeap$Space" "index" "I", Cond.fieldLink RX1 15 "ReplicaHeap$Space" "kinds" "[I", Cond.fieldLink RX1 19 "ReplicaHeap$Space" "values" "[I", Cond.fieldLink RX1 22 "ReplicaHeap$Space" "replicas" "[I"]
def wsX2_init : List Cond := .code yX2_init cX2_init 3 none :: ((wsX2_init_r1 ++ wsX2_init_r2) ++ wsX20 ++ wsX00 ++ wsX10)
def wsX2_isRoot : List Cond := .code yX2_isRoot cX2_isRoot 1 (some .boolean) :: ([])
def wsX2_replicate : List Cond := .code yX2_replicate cX2_replicate 5 (some .int) :: ([.fieldLink RX2 36 "ReplicaHeap" "current" "LReplicaHeap$Space;", .fieldLink RX2 40 "ReplicaHeap" "other" "LReplicaHeap$Space;"] ++ wsX20 ++ wsX10)
def wsX2_forward : List Cond := .code yX2_forward cX2_forward 4 (some .int) :: ([.fieldLink RX2 40 "ReplicaHeap" "other" "LReplicaHeap$Space;", .fieldLink RX2 36 "ReplicaHeap" "current" "LReplicaHeap$Space;", .methodLink RX2 161 yX2_replicate, .instanceMethod yX2_replicate, .selects RX2 yX2_replicate yX2_replicate, .initialized RX2, .code yX2_replicate cX2_replicate 5 (some .int), .instanceMethod yX1_setCell, .initialized RX1, .selects RX1 yX1_setCell yX1_setCell, .code yX1_setCell cX1_setCell 4 none, .fieldLink RX1 15 "ReplicaHeap$Space" "kinds" "[I", .fieldLink RX1 19 "ReplicaHeap$Space" "values" "[I"] ++ wsX20 ++ wsX10)
def wsX2_takeEntry : List Cond := .code yX2_takeEntry cX2_takeEntry 4 (some .int) :: ([.fieldLink RX2 20 "ReplicaHeap" "log" "LReplicaHeap$Log;", .fieldLink RX2 36 "ReplicaHeap" "current" "LReplicaHeap$Space;", .fieldLink RX2 40 "ReplicaHeap" "other" "LReplicaHeap$Space;", .instanceMethod yX1_setCell, .initialized RX1, .selects RX1 yX1_setCell yX1_setCell, .code yX1_setCell cX1_setCell 4 none, .fieldLink RX1 15 "ReplicaHeap$Space" "kinds" "[I", .fieldLink RX1 19 "ReplicaHeap$Space" "values" "[I", .methodLink RX2 155 yX2_forward, .instanceMethod yX2_forward, .selects RX2 yX2_forward yX2_forward, .initialized RX2, .code yX2_forward cX2_forward 4 (some .int), .methodLink RX2 161 yX2_replicate, .instanceMethod yX2_replicate, .selects RX2 yX2_replicate yX2_replicate, .code yX2_replicate cX2_replicate 5 (some .int)] ++ wsX20 ++ wsX00 ++ wsX10)
def wsX2_rootWithoutReplica : List Cond := .code yX2_rootWithoutReplica cX2_rootWithoutReplica 2 (some .int) :: ([.fieldLink RX2 9 "ReplicaHeap" "rootRefers" "[Z", .fieldLink RX2 36 "ReplicaHeap" "current" "LReplicaHeap$Space;", .fieldLink RX2 13 "ReplicaHeap" "rootValues" "[I"] ++ wsX20 ++ wsX10)
def wsX2_flip : List Cond := .code yX2_flip cX2_flip 2 none :: ([.fieldLink RX2 9 "ReplicaHeap" "rootRefers" "[Z", .fieldLink RX2 13 "ReplicaHeap" "rootValues" "[I", .fieldLink RX2 36 "ReplicaHeap" "current" "LReplicaHeap$Space;", .fieldLink RX2 40 "ReplicaHeap" "other" "LReplicaHeap$Space;", .fieldLink RX2 71 "ReplicaHeap" "running" "Z", .fieldLink RX2 117 "ReplicaHeap" "scan" "I", .fieldLink RX2 20 "ReplicaHeap" "log" "LReplicaHeap$Log;", .fieldLink RX2 123 "ReplicaHeap" "flips" "I", .instanceMethod yX0_clear, .initialized RX0, .selects RX0 yX0_clear yX0_clear, .code yX0_clear cX0_clear 1 none, .fieldLink RX0 18 "ReplicaHeap$Log" "size" "I", .fieldLink RX0 25 "ReplicaHeap$Log" "taken" "I"] ++ wsX20 ++ wsX10 ++ wsX00)
def wsX2_step_r1 : List Cond := [Cond.fieldLink RX2 20 "ReplicaHeap" "log" "LReplicaHeap$Log;", Cond.fieldLink RX2 117 "ReplicaHeap" "scan" "I", Cond.fieldLink RX2 40 "ReplicaHeap" "other" "LReplicaHeap$Space;", Cond.fieldLink RX2 13 "ReplicaHeap" "rootValues" "[I", Cond.methodLink RX2 152 yX2_takeEntry, Cond.instanceMethod yX2_takeEntry, Cond.selects RX2 yX2_takeEntry yX2_takeEntry, Cond.initialized RX2, Cond.code yX2_takeEntry cX2_takeEntry 4 (some .int), Cond.fieldLink RX2 36 "ReplicaHeap" "current" "LReplicaHeap$Space;", Cond.instanceMethod yX1_setCell, Cond.initialized RX1, Cond.selects RX1 yX1_setCell yX1_setCell, Cond.code yX1_setCell cX1_setCell 4 none, Cond.fieldLink RX1 15 "ReplicaHeap$Space" "kinds" "[I", Cond.fieldLink RX1 19 "ReplicaHeap$Space" "values" "[I", Cond.methodLink RX2 155 yX2_forward, Cond.instanceMethod yX2_forward, Cond.selects RX2 yX2_forward yX2_forward, Cond.code yX2_forward cX2_forward 4 (some .int), Cond.methodLink RX2 161 yX2_replicate, Cond.instanceMethod yX2_replicate, Cond.selects RX2 yX2_replicate yX2_replicate, Cond.code yX2_replicate cX2_replicate 5 (some .int)]
def wsX2_step_r2 : List Cond := [Cond.methodLink RX2 158 yX2_rootWithoutReplica, Cond.instanceMethod yX2_rootWithoutReplica, Cond.selects RX2 yX2_rootWithoutReplica yX2_rootWithoutReplica, Cond.code yX2_rootWithoutReplica cX2_rootWithoutReplica 2 (some .int), Cond.fieldLink RX2 9 "ReplicaHeap" "rootRefers" "[Z", Cond.methodLink RX2 164 yX2_flip, Cond.instanceMethod yX2_flip, Cond.selects RX2 yX2_flip yX2_flip, Cond.code yX2_flip cX2_flip 2 none, Cond.fieldLink RX2 71 "ReplicaHeap" "running" "Z", Cond.fieldLink RX2 123 "ReplicaHeap" "flips" "I", Cond.instanceMethod yX0_clear, Cond.initialized RX0, Cond.selects RX0 yX0_clear yX0_clear, Cond.code yX0_clear cX0_clear 1 none, Cond.fieldLink RX0 18 "ReplicaHeap$Log" "size" "I", Cond.fieldLink RX0 25 "ReplicaHeap$Log" "taken" "I"]
def wsX2_step : List Cond := .code yX2_step cX2_step 2 (some .int) :: ((wsX2_step_r1 ++ wsX2_step_r2) ++ wsX20 ++ wsX00 ++ wsX10)
def wsX2_work_r1 : List Cond := [Cond.fieldLink RX2 71 "ReplicaHeap" "running" "Z", Cond.constant RX2 101 (1000000), Cond.fieldLink RX2 129 "ReplicaHeap" "unitsSoFar" "I", Cond.fieldLink RX2 50 "ReplicaHeap" "unitsOfCall" "I", Cond.fieldLink RX2 132 "ReplicaHeap" "mostUnits" "I", Cond.methodLink RX2 146 Lib.Math.max.name, Cond.static Lib.Math.max.name, Cond.initialized "java/lang/Math", Cond.code Lib.Math.max.name Lib.Math.max.code 2 (some .int), Cond.methodLink RX2 142 yX2_step, Cond.instanceMethod yX2_step, Cond.selects RX2 yX2_step yX2_step, Cond.initialized RX2, Cond.code yX2_step cX2_step 2 (some .int), Cond.fieldLink RX2 20 "ReplicaHeap" "log" "LReplicaHeap$Log;", Cond.fieldLink RX2 117 "ReplicaHeap" "scan" "I", Cond.fieldLink RX2 40 "ReplicaHeap" "other" "LReplicaHeap$Space;", Cond.fieldLink RX2 13 "ReplicaHeap" "rootValues" "[I", Cond.methodLink RX2 152 yX2_takeEntry, Cond.instanceMethod yX2_takeEntry, Cond.selects RX2 yX2_takeEntry yX2_takeEntry, Cond.code yX2_takeEntry cX2_takeEntry 4 (some .int), Cond.fieldLink RX2 36 "ReplicaHeap" "current" "LReplicaHeap$Space;", Cond.instanceMethod yX1_setCell]
def wsX2_work_r2 : List Cond := [Cond.initialized RX1, Cond.selects RX1 yX1_setCell yX1_setCell, Cond.code yX1_setCell cX1_setCell 4 none, Cond.fieldLink RX1 15 "ReplicaHeap$Space" "kinds" "[I", Cond.fieldLink RX1 19 "ReplicaHeap$Space" "values" "[I", Cond.methodLink RX2 155 yX2_forward, Cond.instanceMethod yX2_forward, Cond.selects RX2 yX2_forward yX2_forward, Cond.code yX2_forward cX2_forward 4 (some .int), Cond.methodLink RX2 161 yX2_replicate, Cond.instanceMethod yX2_replicate, Cond.selects RX2 yX2_replicate yX2_replicate, Cond.code yX2_replicate cX2_replicate 5 (some .int), Cond.methodLink RX2 158 yX2_rootWithoutReplica, Cond.instanceMethod yX2_rootWithoutReplica, Cond.selects RX2 yX2_rootWithoutReplica yX2_rootWithoutReplica, Cond.code yX2_rootWithoutReplica cX2_rootWithoutReplica 2 (some .int), Cond.fieldLink RX2 9 "ReplicaHeap" "rootRefers" "[Z", Cond.methodLink RX2 164 yX2_flip, Cond.instanceMethod yX2_flip, Cond.selects RX2 yX2_flip yX2_flip, Cond.code yX2_flip cX2_flip 2 none, Cond.fieldLink RX2 123 "ReplicaHeap" "flips" "I", Cond.instanceMethod yX0_clear]
def wsX2_work_r3 : List Cond := [Cond.initialized RX0, Cond.selects RX0 yX0_clear yX0_clear, Cond.code yX0_clear cX0_clear 1 none, Cond.fieldLink RX0 18 "ReplicaHeap$Log" "size" "I", Cond.fieldLink RX0 25 "ReplicaHeap$Log" "taken" "I"]
def wsX2_work : List Cond := .code yX2_work cX2_work 4 none :: ((wsX2_work_r1 ++ (wsX2_work_r2 ++ wsX2_work_r3)) ++ wsX20 ++ wsX00 ++ wsX10)
def wsX2_makeRoom_r1 : List Cond := [Cond.fieldLink RX2 71 "ReplicaHeap" "running" "Z", Cond.fieldLink RX2 36 "ReplicaHeap" "current" "LReplicaHeap$Space;", Cond.fieldLink RX2 126 "ReplicaHeap" "pauses" "I", Cond.constant RX2 101 (1000000), Cond.instanceMethod yX1_hasRoom, Cond.initialized RX1, Cond.selects RX1 yX1_hasRoom yX1_hasRoom, Cond.code yX1_hasRoom cX1_hasRoom 2 (some .boolean), Cond.fieldLink RX1 25 "ReplicaHeap$Space" "used" "I", Cond.fieldLink RX1 15 "ReplicaHeap$Space" "kinds" "[I", Cond.methodLink RX2 75 yX2_work, Cond.instanceMethod yX2_work, Cond.selects RX2 yX2_work yX2_work, Cond.initialized RX2, Cond.code yX2_work cX2_work 4 none, Cond.fieldLink RX2 129 "ReplicaHeap" "unitsSoFar" "I", Cond.fieldLink RX2 50 "ReplicaHeap" "unitsOfCall" "I", Cond.fieldLink RX2 132 "ReplicaHeap" "mostUnits" "I", Cond.methodLink RX2 146 Lib.Math.max.name, Cond.static Lib.Math.max.name, Cond.initialized "java/lang/Math", Cond.code Lib.Math.max.name Lib.Math.max.code 2 (some .int), Cond.methodLink RX2 142 yX2_step, Cond.instanceMethod yX2_step]
def wsX2_makeRoom_r2 : List Cond := [Cond.selects RX2 yX2_step yX2_step, Cond.code yX2_step cX2_step 2 (some .int), Cond.fieldLink RX2 20 "ReplicaHeap" "log" "LReplicaHeap$Log;", Cond.fieldLink RX2 117 "ReplicaHeap" "scan" "I", Cond.fieldLink RX2 40 "ReplicaHeap" "other" "LReplicaHeap$Space;", Cond.fieldLink RX2 13 "ReplicaHeap" "rootValues" "[I", Cond.methodLink RX2 152 yX2_takeEntry, Cond.instanceMethod yX2_takeEntry, Cond.selects RX2 yX2_takeEntry yX2_takeEntry, Cond.code yX2_takeEntry cX2_takeEntry 4 (some .int), Cond.instanceMethod yX1_setCell, Cond.selects RX1 yX1_setCell yX1_setCell, Cond.code yX1_setCell cX1_setCell 4 none, Cond.fieldLink RX1 19 "ReplicaHeap$Space" "values" "[I", Cond.methodLink RX2 155 yX2_forward, Cond.instanceMethod yX2_forward, Cond.selects RX2 yX2_forward yX2_forward, Cond.code yX2_forward cX2_forward 4 (some .int), Cond.methodLink RX2 161 yX2_replicate, Cond.instanceMethod yX2_replicate, Cond.selects RX2 yX2_replicate yX2_replicate, Cond.code yX2_replicate cX2_replicate 5 (some .int), Cond.methodLink RX2 158 yX2_rootWithoutReplica, Cond.instanceMethod yX2_rootWithoutReplica]
def wsX2_makeRoom_r3 : List Cond := [Cond.selects RX2 yX2_rootWithoutReplica yX2_rootWithoutReplica, Cond.code yX2_rootWithoutReplica cX2_rootWithoutReplica 2 (some .int), Cond.fieldLink RX2 9 "ReplicaHeap" "rootRefers" "[Z", Cond.methodLink RX2 164 yX2_flip, Cond.instanceMethod yX2_flip, Cond.selects RX2 yX2_flip yX2_flip, Cond.code yX2_flip cX2_flip 2 none, Cond.fieldLink RX2 123 "ReplicaHeap" "flips" "I", Cond.instanceMethod yX0_clear, Cond.initialized RX0, Cond.selects RX0 yX0_clear yX0_clear, Cond.code yX0_clear cX0_clear 1 none, Cond.fieldLink RX0 18 "ReplicaHeap$Log" "size" "I", Cond.fieldLink RX0 25 "ReplicaHeap$Log" "taken" "I"]
def wsX2_makeRoom : List Cond := .code yX2_makeRoom cX2_makeRoom 2 none :: ((wsX2_makeRoom_r1 ++ (wsX2_makeRoom_r2 ++ wsX2_makeRoom_r3)) ++ wsX20 ++ wsX10 ++ wsX00)
def wsX2_setRoot : List Cond := .code yX2_setRoot cX2_setRoot 4 none :: ([.fieldLink RX2 9 "ReplicaHeap" "rootRefers" "[Z", .fieldLink RX2 13 "ReplicaHeap" "rootValues" "[I"] ++ wsX20)
def wsX2_alloc_r1 : List Cond := [Cond.classLink RX2 47 "java/lang/IllegalArgumentException", Cond.initialized "java/lang/IllegalArgumentException", Cond.fieldLink RX2 50 "ReplicaHeap" "unitsOfCall" "I", Cond.fieldLink RX2 36 "ReplicaHeap" "current" "LReplicaHeap$Space;", Cond.fieldLink RX2 68 "ReplicaHeap" "made" "I", Cond.fieldLink RX2 71 "ReplicaHeap" "running" "Z", Cond.fieldLink RX2 28 "ReplicaHeap" "quantum" "I", Cond.fieldLink RX2 24 "ReplicaHeap" "cells" "I", Cond.methodLink RX2 43 yX2_isRoot, Cond.static yX2_isRoot, Cond.initialized RX2, Cond.code yX2_isRoot cX2_isRoot 1 (some .boolean), Cond.methodLink RX2 53 yX2_makeRoom, Cond.instanceMethod yX2_makeRoom, Cond.selects RX2 yX2_makeRoom yX2_makeRoom, Cond.code yX2_makeRoom cX2_makeRoom 2 none, Cond.fieldLink RX2 126 "ReplicaHeap" "pauses" "I", Cond.constant RX2 101 (1000000), Cond.instanceMethod yX1_hasRoom, Cond.initialized RX1, Cond.selects RX1 yX1_hasRoom yX1_hasRoom, Cond.code yX1_hasRoom cX1_hasRoom 2 (some .boolean), Cond.fieldLink RX1 25 "ReplicaHeap$Space" "used" "I", Cond.fieldLink RX1 15 "ReplicaHeap$Space" "kinds" "[I"]
def wsX2_alloc_r2 : List Cond := [Cond.methodLink RX2 75 yX2_work, Cond.instanceMethod yX2_work, Cond.selects RX2 yX2_work yX2_work, Cond.code yX2_work cX2_work 4 none, Cond.fieldLink RX2 129 "ReplicaHeap" "unitsSoFar" "I", Cond.fieldLink RX2 132 "ReplicaHeap" "mostUnits" "I", Cond.methodLink RX2 146 Lib.Math.max.name, Cond.static Lib.Math.max.name, Cond.initialized "java/lang/Math", Cond.code Lib.Math.max.name Lib.Math.max.code 2 (some .int), Cond.methodLink RX2 142 yX2_step, Cond.instanceMethod yX2_step, Cond.selects RX2 yX2_step yX2_step, Cond.code yX2_step cX2_step 2 (some .int), Cond.fieldLink RX2 20 "ReplicaHeap" "log" "LReplicaHeap$Log;", Cond.fieldLink RX2 117 "ReplicaHeap" "scan" "I", Cond.fieldLink RX2 40 "ReplicaHeap" "other" "LReplicaHeap$Space;", Cond.fieldLink RX2 13 "ReplicaHeap" "rootValues" "[I", Cond.methodLink RX2 152 yX2_takeEntry, Cond.instanceMethod yX2_takeEntry, Cond.selects RX2 yX2_takeEntry yX2_takeEntry, Cond.code yX2_takeEntry cX2_takeEntry 4 (some .int), Cond.instanceMethod yX1_setCell, Cond.selects RX1 yX1_setCell yX1_setCell]
def wsX2_alloc_r3 : List Cond := [Cond.code yX1_setCell cX1_setCell 4 none, Cond.fieldLink RX1 19 "ReplicaHeap$Space" "values" "[I", Cond.methodLink RX2 155 yX2_forward, Cond.instanceMethod yX2_forward, Cond.selects RX2 yX2_forward yX2_forward, Cond.code yX2_forward cX2_forward 4 (some .int), Cond.methodLink RX2 161 yX2_replicate, Cond.instanceMethod yX2_replicate, Cond.selects RX2 yX2_replicate yX2_replicate, Cond.code yX2_replicate cX2_replicate 5 (some .int), Cond.methodLink RX2 158 yX2_rootWithoutReplica, Cond.instanceMethod yX2_rootWithoutReplica, Cond.selects RX2 yX2_rootWithoutReplica yX2_rootWithoutReplica, Cond.code yX2_rootWithoutReplica cX2_rootWithoutReplica 2 (some .int), Cond.fieldLink RX2 9 "ReplicaHeap" "rootRefers" "[Z", Cond.methodLink RX2 164 yX2_flip, Cond.instanceMethod yX2_flip, Cond.selects RX2 yX2_flip yX2_flip, Cond.code yX2_flip cX2_flip 2 none, Cond.fieldLink RX2 123 "ReplicaHeap" "flips" "I", Cond.instanceMethod yX0_clear, Cond.initialized RX0, Cond.selects RX0 yX0_clear yX0_clear, Cond.code yX0_clear cX0_clear 1 none]
def wsX2_alloc_r4 : List Cond := [Cond.fieldLink RX0 18 "ReplicaHeap$Log" "size" "I", Cond.fieldLink RX0 25 "ReplicaHeap$Log" "taken" "I", Cond.instanceMethod yX1_layObject, Cond.selects RX1 yX1_layObject yX1_layObject, Cond.code yX1_layObject cX1_layObject 4 (some .int), Cond.fieldLink RX1 22 "ReplicaHeap$Space" "replicas" "[I", Cond.methodLink RX1 28 yX1_setCell, Cond.methodLink RX2 64 yX2_setRoot, Cond.instanceMethod yX2_setRoot, Cond.selects RX2 yX2_setRoot yX2_setRoot, Cond.code yX2_setRoot cX2_setRoot 4 none]
def wsX2_alloc : List Cond := .code yX2_alloc cX2_alloc 3 (some .boolean) :: ((wsX2_alloc_r1 ++ (wsX2_alloc_r2 ++ (wsX2_alloc_r3 ++ wsX2_alloc_r4))) ++ wsX20 ++ wsX10 ++ wsX00 ++ (vx_at0 RX2 49 "java/lang/IllegalArgumentException" ["java/lang/RuntimeException", "java/lang/Exception"]).filter goodWord)
def wsX2_hasField : List Cond := .code yX2_hasField cX2_hasField 3 (some .boolean) :: ([.fieldLink RX2 9 "ReplicaHeap" "rootRefers" "[Z", .fieldLink RX2 36 "ReplicaHeap" "current" "LReplicaHeap$Space;", .fieldLink RX2 13 "ReplicaHeap" "rootValues" "[I"] ++ wsX20 ++ wsX10)
def wsX2_change_r1 : List Cond := [Cond.fieldLink RX2 36 "ReplicaHeap" "current" "LReplicaHeap$Space;", Cond.fieldLink RX2 71 "ReplicaHeap" "running" "Z", Cond.fieldLink RX2 50 "ReplicaHeap" "unitsOfCall" "I", Cond.fieldLink RX2 20 "ReplicaHeap" "log" "LReplicaHeap$Log;", Cond.fieldLink RX2 28 "ReplicaHeap" "quantum" "I", Cond.instanceMethod yX1_setCell, Cond.initialized RX1, Cond.selects RX1 yX1_setCell yX1_setCell, Cond.code yX1_setCell cX1_setCell 4 none, Cond.fieldLink RX1 15 "ReplicaHeap$Space" "kinds" "[I", Cond.fieldLink RX1 19 "ReplicaHeap$Space" "values" "[I", Cond.instanceMethod yX0_add, Cond.initialized RX0, Cond.selects RX0 yX0_add yX0_add, Cond.code yX0_add cX0_add 3 none, Cond.fieldLink RX0 18 "ReplicaHeap$Log" "size" "I", Cond.fieldLink RX0 9 "ReplicaHeap$Log" "places" "[I", Cond.fieldLink RX0 15 "ReplicaHeap$Log" "fields" "[I", Cond.methodLink RX0 22 yX0_clear, Cond.instanceMethod yX0_clear, Cond.selects RX0 yX0_clear yX0_clear, Cond.code yX0_clear cX0_clear 1 none, Cond.fieldLink RX0 25 "ReplicaHeap$Log" "taken" "I", Cond.methodLink RX2 75 yX2_work]
def wsX2_change_r2 : List Cond := [Cond.instanceMethod yX2_work, Cond.selects RX2 yX2_work yX2_work, Cond.initialized RX2, Cond.code yX2_work cX2_work 4 none, Cond.constant RX2 101 (1000000), Cond.fieldLink RX2 129 "ReplicaHeap" "unitsSoFar" "I", Cond.fieldLink RX2 132 "ReplicaHeap" "mostUnits" "I", Cond.methodLink RX2 146 Lib.Math.max.name, Cond.static Lib.Math.max.name, Cond.initialized "java/lang/Math", Cond.code Lib.Math.max.name Lib.Math.max.code 2 (some .int), Cond.methodLink RX2 142 yX2_step, Cond.instanceMethod yX2_step, Cond.selects RX2 yX2_step yX2_step, Cond.code yX2_step cX2_step 2 (some .int), Cond.fieldLink RX2 117 "ReplicaHeap" "scan" "I", Cond.fieldLink RX2 40 "ReplicaHeap" "other" "LReplicaHeap$Space;", Cond.fieldLink RX2 13 "ReplicaHeap" "rootValues" "[I", Cond.methodLink RX2 152 yX2_takeEntry, Cond.instanceMethod yX2_takeEntry, Cond.selects RX2 yX2_takeEntry yX2_takeEntry, Cond.code yX2_takeEntry cX2_takeEntry 4 (some .int), Cond.methodLink RX2 155 yX2_forward, Cond.instanceMethod yX2_forward]
def wsX2_change_r3 : List Cond := [Cond.selects RX2 yX2_forward yX2_forward, Cond.code yX2_forward cX2_forward 4 (some .int), Cond.methodLink RX2 161 yX2_replicate, Cond.instanceMethod yX2_replicate, Cond.selects RX2 yX2_replicate yX2_replicate, Cond.code yX2_replicate cX2_replicate 5 (some .int), Cond.methodLink RX2 158 yX2_rootWithoutReplica, Cond.instanceMethod yX2_rootWithoutReplica, Cond.selects RX2 yX2_rootWithoutReplica yX2_rootWithoutReplica, Cond.code yX2_rootWithoutReplica cX2_rootWithoutReplica 2 (some .int), Cond.fieldLink RX2 9 "ReplicaHeap" "rootRefers" "[Z", Cond.methodLink RX2 164 yX2_flip, Cond.instanceMethod yX2_flip, Cond.selects RX2 yX2_flip yX2_flip, Cond.code yX2_flip cX2_flip 2 none, Cond.fieldLink RX2 123 "ReplicaHeap" "flips" "I"]
def wsX2_change : List Cond := .code yX2_change cX2_change 5 none :: ((wsX2_change_r1 ++ (wsX2_change_r2 ++ wsX2_change_r3)) ++ wsX20 ++ wsX10 ++ wsX00)
def wsX2_put_r1 : List Cond := [Cond.classLink RX2 47 "java/lang/IllegalArgumentException", Cond.initialized "java/lang/IllegalArgumentException", Cond.classLink RX2 85 "java/lang/IllegalStateException", Cond.initialized "java/lang/IllegalStateException", Cond.fieldLink RX2 9 "ReplicaHeap" "rootRefers" "[Z", Cond.fieldLink RX2 36 "ReplicaHeap" "current" "LReplicaHeap$Space;", Cond.fieldLink RX2 13 "ReplicaHeap" "rootValues" "[I", Cond.methodLink RX2 43 yX2_isRoot, Cond.static yX2_isRoot, Cond.initialized RX2, Cond.code yX2_isRoot cX2_isRoot 1 (some .boolean), Cond.methodLink RX2 81 yX2_hasField, Cond.instanceMethod yX2_hasField, Cond.selects RX2 yX2_hasField yX2_hasField, Cond.code yX2_hasField cX2_hasField 3 (some .boolean), Cond.methodLink RX2 91 yX2_change, Cond.instanceMethod yX2_change, Cond.selects RX2 yX2_change yX2_change, Cond.code yX2_change cX2_change 5 none, Cond.fieldLink RX2 71 "ReplicaHeap" "running" "Z", Cond.fieldLink RX2 50 "ReplicaHeap" "unitsOfCall" "I", Cond.fieldLink RX2 20 "ReplicaHeap" "log" "LReplicaHeap$Log;", Cond.fieldLink RX2 28 "ReplicaHeap" "quantum" "I", Cond.instanceMethod yX1_setCell]
def wsX2_put_r2 : List Cond := [Cond.initialized RX1, Cond.selects RX1 yX1_setCell yX1_setCell, Cond.code yX1_setCell cX1_setCell 4 none, Cond.fieldLink RX1 15 "ReplicaHeap$Space" "kinds" "[I", Cond.fieldLink RX1 19 "ReplicaHeap$Space" "values" "[I", Cond.instanceMethod yX0_add, Cond.initialized RX0, Cond.selects RX0 yX0_add yX0_add, Cond.code yX0_add cX0_add 3 none, Cond.fieldLink RX0 18 "ReplicaHeap$Log" "size" "I", Cond.fieldLink RX0 9 "ReplicaHeap$Log" "places" "[I", Cond.fieldLink RX0 15 "ReplicaHeap$Log" "fields" "[I", Cond.methodLink RX0 22 yX0_clear, Cond.instanceMethod yX0_clear, Cond.selects RX0 yX0_clear yX0_clear, Cond.code yX0_clear cX0_clear 1 none, Cond.fieldLink RX0 25 "ReplicaHeap$Log" "taken" "I", Cond.methodLink RX2 75 yX2_work, Cond.instanceMethod yX2_work, Cond.selects RX2 yX2_work yX2_work, Cond.code yX2_work cX2_work 4 none, Cond.constant RX2 101 (1000000), Cond.fieldLink RX2 129 "ReplicaHeap" "unitsSoFar" "I", Cond.fieldLink RX2 132 "ReplicaHeap" "mostUnits" "I"]
def wsX2_put_r3 : List Cond := [Cond.methodLink RX2 146 Lib.Math.max.name, Cond.static Lib.Math.max.name, Cond.initialized "java/lang/Math", Cond.code Lib.Math.max.name Lib.Math.max.code 2 (some .int), Cond.methodLink RX2 142 yX2_step, Cond.instanceMethod yX2_step, Cond.selects RX2 yX2_step yX2_step, Cond.code yX2_step cX2_step 2 (some .int), Cond.fieldLink RX2 117 "ReplicaHeap" "scan" "I", Cond.fieldLink RX2 40 "ReplicaHeap" "other" "LReplicaHeap$Space;", Cond.methodLink RX2 152 yX2_takeEntry, Cond.instanceMethod yX2_takeEntry, Cond.selects RX2 yX2_takeEntry yX2_takeEntry, Cond.code yX2_takeEntry cX2_takeEntry 4 (some .int), Cond.methodLink RX2 155 yX2_forward, Cond.instanceMethod yX2_forward, Cond.selects RX2 yX2_forward yX2_forward, Cond.code yX2_forward cX2_forward 4 (some .int), Cond.methodLink RX2 161 yX2_replicate, Cond.instanceMethod yX2_replicate, Cond.selects RX2 yX2_replicate yX2_replicate, Cond.code yX2_replicate cX2_replicate 5 (some .int), Cond.methodLink RX2 158 yX2_rootWithoutReplica, Cond.instanceMethod yX2_rootWithoutReplica]
def wsX2_put_r4 : List Cond := [Cond.selects RX2 yX2_rootWithoutReplica yX2_rootWithoutReplica, Cond.code yX2_rootWithoutReplica cX2_rootWithoutReplica 2 (some .int), Cond.methodLink RX2 164 yX2_flip, Cond.instanceMethod yX2_flip, Cond.selects RX2 yX2_flip yX2_flip, Cond.code yX2_flip cX2_flip 2 none, Cond.fieldLink RX2 123 "ReplicaHeap" "flips" "I"]
def wsX2_put : List Cond := .code yX2_put cX2_put 5 none :: ((wsX2_put_r1 ++ (wsX2_put_r2 ++ (wsX2_put_r3 ++ wsX2_put_r4))) ++ wsX20 ++ wsX10 ++ wsX00 ++ (vx_at0 RX2 49 "java/lang/IllegalArgumentException" ["java/lang/RuntimeException", "java/lang/Exception"]).filter goodWord ++ (vx_at0 RX2 87 "java/lang/IllegalStateException" ["java/lang/RuntimeException", "java/lang/Exception"]).filter goodWord)
def wsX2_putNumber_r1 : List Cond := [Cond.classLink RX2 47 "java/lang/IllegalArgumentException", Cond.initialized "java/lang/IllegalArgumentException", Cond.classLink RX2 85 "java/lang/IllegalStateException", Cond.initialized "java/lang/IllegalStateException", Cond.fieldLink RX2 13 "ReplicaHeap" "rootValues" "[I", Cond.methodLink RX2 43 yX2_isRoot, Cond.static yX2_isRoot, Cond.initialized RX2, Cond.code yX2_isRoot cX2_isRoot 1 (some .boolean), Cond.methodLink RX2 81 yX2_hasField, Cond.instanceMethod yX2_hasField, Cond.selects RX2 yX2_hasField yX2_hasField, Cond.code yX2_hasField cX2_hasField 3 (some .boolean), Cond.fieldLink RX2 9 "ReplicaHeap" "rootRefers" "[Z", Cond.fieldLink RX2 36 "ReplicaHeap" "current" "LReplicaHeap$Space;", Cond.methodLink RX2 91 yX2_change, Cond.instanceMethod yX2_change, Cond.selects RX2 yX2_change yX2_change, Cond.code yX2_change cX2_change 5 none, Cond.fieldLink RX2 71 "ReplicaHeap" "running" "Z", Cond.fieldLink RX2 50 "ReplicaHeap" "unitsOfCall" "I", Cond.fieldLink RX2 20 "ReplicaHeap" "log" "LReplicaHeap$Log;", Cond.fieldLink RX2 28 "ReplicaHeap" "quantum" "I", Cond.instanceMethod yX1_setCell]
def wsX2_putNumber_r2 : List Cond := [Cond.initialized RX1, Cond.selects RX1 yX1_setCell yX1_setCell, Cond.code yX1_setCell cX1_setCell 4 none, Cond.fieldLink RX1 15 "ReplicaHeap$Space" "kinds" "[I", Cond.fieldLink RX1 19 "ReplicaHeap$Space" "values" "[I", Cond.instanceMethod yX0_add, Cond.initialized RX0, Cond.selects RX0 yX0_add yX0_add, Cond.code yX0_add cX0_add 3 none, Cond.fieldLink RX0 18 "ReplicaHeap$Log" "size" "I", Cond.fieldLink RX0 9 "ReplicaHeap$Log" "places" "[I", Cond.fieldLink RX0 15 "ReplicaHeap$Log" "fields" "[I", Cond.methodLink RX0 22 yX0_clear, Cond.instanceMethod yX0_clear, Cond.selects RX0 yX0_clear yX0_clear, Cond.code yX0_clear cX0_clear 1 none, Cond.fieldLink RX0 25 "ReplicaHeap$Log" "taken" "I", Cond.methodLink RX2 75 yX2_work, Cond.instanceMethod yX2_work, Cond.selects RX2 yX2_work yX2_work, Cond.code yX2_work cX2_work 4 none, Cond.constant RX2 101 (1000000), Cond.fieldLink RX2 129 "ReplicaHeap" "unitsSoFar" "I", Cond.fieldLink RX2 132 "ReplicaHeap" "mostUnits" "I"]
def wsX2_putNumber_r3 : List Cond := [Cond.methodLink RX2 146 Lib.Math.max.name, Cond.static Lib.Math.max.name, Cond.initialized "java/lang/Math", Cond.code Lib.Math.max.name Lib.Math.max.code 2 (some .int), Cond.methodLink RX2 142 yX2_step, Cond.instanceMethod yX2_step, Cond.selects RX2 yX2_step yX2_step, Cond.code yX2_step cX2_step 2 (some .int), Cond.fieldLink RX2 117 "ReplicaHeap" "scan" "I", Cond.fieldLink RX2 40 "ReplicaHeap" "other" "LReplicaHeap$Space;", Cond.methodLink RX2 152 yX2_takeEntry, Cond.instanceMethod yX2_takeEntry, Cond.selects RX2 yX2_takeEntry yX2_takeEntry, Cond.code yX2_takeEntry cX2_takeEntry 4 (some .int), Cond.methodLink RX2 155 yX2_forward, Cond.instanceMethod yX2_forward, Cond.selects RX2 yX2_forward yX2_forward, Cond.code yX2_forward cX2_forward 4 (some .int), Cond.methodLink RX2 161 yX2_replicate, Cond.instanceMethod yX2_replicate, Cond.selects RX2 yX2_replicate yX2_replicate, Cond.code yX2_replicate cX2_replicate 5 (some .int), Cond.methodLink RX2 158 yX2_rootWithoutReplica, Cond.instanceMethod yX2_rootWithoutReplica]
def wsX2_putNumber_r4 : List Cond := [Cond.selects RX2 yX2_rootWithoutReplica yX2_rootWithoutReplica, Cond.code yX2_rootWithoutReplica cX2_rootWithoutReplica 2 (some .int), Cond.methodLink RX2 164 yX2_flip, Cond.instanceMethod yX2_flip, Cond.selects RX2 yX2_flip yX2_flip, Cond.code yX2_flip cX2_flip 2 none, Cond.fieldLink RX2 123 "ReplicaHeap" "flips" "I"]
def wsX2_putNumber : List Cond := .code yX2_putNumber cX2_putNumber 4 none :: ((wsX2_putNumber_r1 ++ (wsX2_putNumber_r2 ++ (wsX2_putNumber_r3 ++ wsX2_putNumber_r4))) ++ wsX20 ++ wsX10 ++ wsX00 ++ (vx_at0 RX2 49 "java/lang/IllegalArgumentException" ["java/lang/RuntimeException", "java/lang/Exception"]).filter goodWord ++ (vx_at0 RX2 87 "java/lang/IllegalStateException" ["java/lang/RuntimeException", "java/lang/Exception"]).filter goodWord)
def wsX2_get : List Cond := .code yX2_get cX2_get 5 none :: ([.classLink RX2 47 "java/lang/IllegalArgumentException", .initialized "java/lang/IllegalArgumentException", .classLink RX2 85 "java/lang/IllegalStateException", .initialized "java/lang/IllegalStateException", .fieldLink RX2 13 "ReplicaHeap" "rootValues" "[I", .fieldLink RX2 36 "ReplicaHeap" "current" "LReplicaHeap$Space;", .methodLink RX2 43 yX2_isRoot, .static yX2_isRoot, .initialized RX2, .code yX2_isRoot cX2_isRoot 1 (some .boolean), .methodLink RX2 81 yX2_hasField, .instanceMethod yX2_hasField, .selects RX2 yX2_hasField yX2_hasField, .code yX2_hasField cX2_hasField 3 (some .boolean), .fieldLink RX2 9 "ReplicaHeap" "rootRefers" "[Z", .methodLink RX2 64 yX2_setRoot, .instanceMethod yX2_setRoot, .selects RX2 yX2_setRoot yX2_setRoot, .code yX2_setRoot cX2_setRoot 4 none] ++ wsX20 ++ wsX10 ++ (vx_at0 RX2 49 "java/lang/IllegalArgumentException" ["java/lang/RuntimeException", "java/lang/Exception"]).filter goodWord ++ (vx_at0 RX2 87 "java/lang/IllegalStateException" ["java/lang/RuntimeException", "java/lang/Exception"]).filter goodWord)
def wsX2_move : List Cond := .code yX2_move cX2_move 3 (some .boolean) :: ([.fieldLink RX2 9 "ReplicaHeap" "rootRefers" "[Z", .fieldLink RX2 13 "ReplicaHeap" "rootValues" "[I", .methodLink RX2 43 yX2_isRoot, .static yX2_isRoot, .initialized RX2, .code yX2_isRoot cX2_isRoot 1 (some .boolean), .methodLink RX2 64 yX2_setRoot, .instanceMethod yX2_setRoot, .selects RX2 yX2_setRoot yX2_setRoot, .code yX2_setRoot cX2_setRoot 4 none] ++ wsX20)
def wsX2_number : List Cond := .code yX2_number cX2_number 3 (some .boolean) :: ([.methodLink RX2 43 yX2_isRoot, .static yX2_isRoot, .initialized RX2, .code yX2_isRoot cX2_isRoot 1 (some .boolean), .methodLink RX2 64 yX2_setRoot, .instanceMethod yX2_setRoot, .selects RX2 yX2_setRoot yX2_setRoot, .code yX2_setRoot cX2_setRoot 4 none, .fieldLink RX2 9 "ReplicaHeap" "rootRefers" "[Z", .fieldLink RX2 13 "ReplicaHeap" "rootValues" "[I"] ++ wsX20)
def wsX2_collect_r1 : List Cond := [Cond.classLink RX2 47 "java/lang/IllegalArgumentException", Cond.initialized "java/lang/IllegalArgumentException", Cond.fieldLink RX2 50 "ReplicaHeap" "unitsOfCall" "I", Cond.fieldLink RX2 71 "ReplicaHeap" "running" "Z", Cond.constant RX2 101 (1000000), Cond.methodLink RX2 75 yX2_work, Cond.instanceMethod yX2_work, Cond.selects RX2 yX2_work yX2_work, Cond.initialized RX2, Cond.code yX2_work cX2_work 4 none, Cond.fieldLink RX2 129 "ReplicaHeap" "unitsSoFar" "I", Cond.fieldLink RX2 132 "ReplicaHeap" "mostUnits" "I", Cond.methodLink RX2 146 Lib.Math.max.name, Cond.static Lib.Math.max.name, Cond.initialized "java/lang/Math", Cond.code Lib.Math.max.name Lib.Math.max.code 2 (some .int), Cond.methodLink RX2 142 yX2_step, Cond.instanceMethod yX2_step, Cond.selects RX2 yX2_step yX2_step, Cond.code yX2_step cX2_step 2 (some .int), Cond.fieldLink RX2 20 "ReplicaHeap" "log" "LReplicaHeap$Log;", Cond.fieldLink RX2 117 "ReplicaHeap" "scan" "I", Cond.fieldLink RX2 40 "ReplicaHeap" "other" "LReplicaHeap$Space;", Cond.fieldLink RX2 13 "ReplicaHeap" "rootValues" "[I"]
def wsX2_collect_r2 : List Cond := [Cond.methodLink RX2 152 yX2_takeEntry, Cond.instanceMethod yX2_takeEntry, Cond.selects RX2 yX2_takeEntry yX2_takeEntry, Cond.code yX2_takeEntry cX2_takeEntry 4 (some .int), Cond.fieldLink RX2 36 "ReplicaHeap" "current" "LReplicaHeap$Space;", Cond.instanceMethod yX1_setCell, Cond.initialized RX1, Cond.selects RX1 yX1_setCell yX1_setCell, Cond.code yX1_setCell cX1_setCell 4 none, Cond.fieldLink RX1 15 "ReplicaHeap$Space" "kinds" "[I", Cond.fieldLink RX1 19 "ReplicaHeap$Space" "values" "[I", Cond.methodLink RX2 155 yX2_forward, Cond.instanceMethod yX2_forward, Cond.selects RX2 yX2_forward yX2_forward, Cond.code yX2_forward cX2_forward 4 (some .int), Cond.methodLink RX2 161 yX2_replicate, Cond.instanceMethod yX2_replicate, Cond.selects RX2 yX2_replicate yX2_replicate, Cond.code yX2_replicate cX2_replicate 5 (some .int), Cond.methodLink RX2 158 yX2_rootWithoutReplica, Cond.instanceMethod yX2_rootWithoutReplica, Cond.selects RX2 yX2_rootWithoutReplica yX2_rootWithoutReplica, Cond.code yX2_rootWithoutReplica cX2_rootWithoutReplica 2 (some .int), Cond.fieldLink RX2 9 "ReplicaHeap" "rootRefers" "[Z"]
def wsX2_collect_r3 : List Cond := [Cond.methodLink RX2 164 yX2_flip, Cond.instanceMethod yX2_flip, Cond.selects RX2 yX2_flip yX2_flip, Cond.code yX2_flip cX2_flip 2 none, Cond.fieldLink RX2 123 "ReplicaHeap" "flips" "I", Cond.instanceMethod yX0_clear, Cond.initialized RX0, Cond.selects RX0 yX0_clear yX0_clear, Cond.code yX0_clear cX0_clear 1 none, Cond.fieldLink RX0 18 "ReplicaHeap$Log" "size" "I", Cond.fieldLink RX0 25 "ReplicaHeap$Log" "taken" "I"]
def wsX2_collect : List Cond := .code yX2_collect cX2_collect 2 (some .int) :: ((wsX2_collect_r1 ++ (wsX2_collect_r2 ++ wsX2_collect_r3)) ++ wsX20 ++ wsX00 ++ wsX10 ++ (vx_at0 RX2 49 "java/lang/IllegalArgumentException" ["java/lang/RuntimeException", "java/lang/Exception"]).filter goodWord)
def wsX2_look : List Cond := .code yX2_look cX2_look 5 (some .int) :: ([.classLink RX2 102 "java/lang/IndexOutOfBoundsException", .initialized "java/lang/IndexOutOfBoundsException", .fieldLink RX2 9 "ReplicaHeap" "rootRefers" "[Z", .fieldLink RX2 13 "ReplicaHeap" "rootValues" "[I", .fieldLink RX2 36 "ReplicaHeap" "current" "LReplicaHeap$Space;", .methodLink RX2 43 yX2_isRoot, .static yX2_isRoot, .initialized RX2, .code yX2_isRoot cX2_isRoot 1 (some .boolean)] ++ wsX20 ++ wsX10 ++ (vx_at0 RX2 104 "java/lang/IndexOutOfBoundsException" ["java/lang/RuntimeException", "java/lang/Exception"]).filter goodWord)
def wsX2_field : List Cond := .code yX2_field cX2_field 5 (some .int) :: ([.classLink RX2 102 "java/lang/IndexOutOfBoundsException", .initialized "java/lang/IndexOutOfBoundsException", .fieldLink RX2 13 "ReplicaHeap" "rootValues" "[I", .fieldLink RX2 36 "ReplicaHeap" "current" "LReplicaHeap$Space;", .methodLink RX2 43 yX2_isRoot, .static yX2_isRoot, .initialized RX2, .code yX2_isRoot cX2_isRoot 1 (some .boolean), .methodLink RX2 81 yX2_hasField, .instanceMethod yX2_hasField, .selects RX2 yX2_hasField yX2_hasField, .code yX2_hasField cX2_hasField 3 (some .boolean), .fieldLink RX2 9 "ReplicaHeap" "rootRefers" "[Z"] ++ wsX20 ++ wsX10 ++ (vx_at0 RX2 104 "java/lang/IndexOutOfBoundsException" ["java/lang/RuntimeException", "java/lang/Exception"]).filter goodWord)
def wsX2_cell : List Cond := .code yX2_cell cX2_cell 5 (some .int) :: ([.classLink RX2 102 "java/lang/IndexOutOfBoundsException", .initialized "java/lang/IndexOutOfBoundsException", .fieldLink RX2 36 "ReplicaHeap" "current" "LReplicaHeap$Space;", .fieldLink RX2 40 "ReplicaHeap" "other" "LReplicaHeap$Space;"] ++ wsX20 ++ wsX10 ++ (vx_at0 RX2 104 "java/lang/IndexOutOfBoundsException" ["java/lang/RuntimeException", "java/lang/Exception"]).filter goodWord)
def wsX2_entry : List Cond := .code yX2_entry cX2_entry 3 (some .int) :: ([.classLink RX2 102 "java/lang/IndexOutOfBoundsException", .initialized "java/lang/IndexOutOfBoundsException", .fieldLink RX2 20 "ReplicaHeap" "log" "LReplicaHeap$Log;"] ++ wsX20 ++ wsX00 ++ (vx_at0 RX2 104 "java/lang/IndexOutOfBoundsException" ["java/lang/RuntimeException", "java/lang/Exception"]).filter goodWord)
def wsX2_count : List Cond := .code yX2_count cX2_count 2 (some .int) :: ([.fieldLink RX2 36 "ReplicaHeap" "current" "LReplicaHeap$Space;", .fieldLink RX2 71 "ReplicaHeap" "running" "Z", .fieldLink RX2 40 "ReplicaHeap" "other" "LReplicaHeap$Space;", .fieldLink RX2 117 "ReplicaHeap" "scan" "I", .fieldLink RX2 20 "ReplicaHeap" "log" "LReplicaHeap$Log;", .fieldLink RX2 123 "ReplicaHeap" "flips" "I", .fieldLink RX2 126 "ReplicaHeap" "pauses" "I", .fieldLink RX2 129 "ReplicaHeap" "unitsSoFar" "I", .fieldLink RX2 132 "ReplicaHeap" "mostUnits" "I", .fieldLink RX2 68 "ReplicaHeap" "made" "I", .fieldLink RX2 24 "ReplicaHeap" "cells" "I"] ++ wsX20 ++ wsX10 ++ wsX00)
def wsX3_init : List Cond := .code yX3_init cX3_init 3 none :: ([.methodLink RX3 1 objectInit, .instanceMethod objectInit, .code objectInit ⟨#[0xb1]⟩ 1 none, .arrayClass .int, .fieldLink RX3 7 "ReplicaHeapModel" "kind" "[I", .fieldLink RX3 13 "ReplicaHeapModel" "has" "[I", .fieldLink RX3 16 "ReplicaHeapModel" "replica" "[I", .fieldLink RX3 19 "ReplicaHeapModel" "used" "[I", .arrayClass .boolean, .fieldLink RX3 22 "ReplicaHeapModel" "refers" "[Z", .fieldLink RX3 26 "ReplicaHeapModel" "root" "[I", .fieldLink RX3 29 "ReplicaHeapModel" "logPlace" "[I", .fieldLink RX3 32 "ReplicaHeapModel" "logField" "[I", .fieldLink RX3 35 "ReplicaHeapModel" "cells" "I", .fieldLink RX3 39 "ReplicaHeapModel" "quantum" "I"] ++ wsX30)
def wsX3_thrown : List Cond := .code yX3_thrown cX3_thrown 1 (some .int) :: ([.fieldLink RX3 42 "ReplicaHeapModel" "thrown" "I"] ++ wsX30)
def wsX3_other : List Cond := .code yX3_other cX3_other 1 (some .int) :: ([.fieldLink RX3 45 "ReplicaHeapModel" "now" "I"] ++ wsX30)
def wsX3_at : List Cond := .code yX3_at cX3_at 2 (some .int) :: ([])
def wsX3_replicate : List Cond := .code yX3_replicate cX3_replicate 6 (some .int) :: ([.fieldLink RX3 45 "ReplicaHeapModel" "now" "I", .fieldLink RX3 16 "ReplicaHeapModel" "replica" "[I", .fieldLink RX3 13 "ReplicaHeapModel" "has" "[I", .fieldLink RX3 19 "ReplicaHeapModel" "used" "[I", .fieldLink RX3 7 "ReplicaHeapModel" "kind" "[I", .methodLink RX3 48 yX3_at, .static yX3_at, .initialized RX3, .code yX3_at cX3_at 2 (some .int), .methodLink RX3 52 yX3_other, .instanceMethod yX3_other, .selects RX3 yX3_other yX3_other, .code yX3_other cX3_other 1 (some .int)] ++ wsX30)
def wsX3_refer : List Cond := .code yX3_refer cX3_refer 4 (some .int) :: ([.fieldLink RX3 7 "ReplicaHeapModel" "kind" "[I", .fieldLink RX3 13 "ReplicaHeapModel" "has" "[I", .fieldLink RX3 16 "ReplicaHeapModel" "replica" "[I", .fieldLink RX3 45 "ReplicaHeapModel" "now" "I", .methodLink RX3 56 yX3_replicate, .instanceMethod yX3_replicate, .selects RX3 yX3_replicate yX3_replicate, .initialized RX3, .code yX3_replicate cX3_replicate 6 (some .int), .fieldLink RX3 19 "ReplicaHeapModel" "used" "[I", .methodLink RX3 48 yX3_at, .static yX3_at, .code yX3_at cX3_at 2 (some .int), .methodLink RX3 52 yX3_other, .instanceMethod yX3_other, .selects RX3 yX3_other yX3_other, .code yX3_other cX3_other 1 (some .int)] ++ wsX30)
def wsX3_take : List Cond := .code yX3_take cX3_take 5 (some .int) :: ([.fieldLink RX3 29 "ReplicaHeapModel" "logPlace" "[I", .fieldLink RX3 60 "ReplicaHeapModel" "taken" "I", .fieldLink RX3 32 "ReplicaHeapModel" "logField" "[I", .fieldLink RX3 45 "ReplicaHeapModel" "now" "I", .fieldLink RX3 16 "ReplicaHeapModel" "replica" "[I", .fieldLink RX3 7 "ReplicaHeapModel" "kind" "[I", .fieldLink RX3 13 "ReplicaHeapModel" "has" "[I", .methodLink RX3 48 yX3_at, .static yX3_at, .initialized RX3, .code yX3_at cX3_at 2 (some .int), .methodLink RX3 52 yX3_other, .instanceMethod yX3_other, .selects RX3 yX3_other yX3_other, .code yX3_other cX3_other 1 (some .int), .methodLink RX3 63 yX3_refer, .instanceMethod yX3_refer, .selects RX3 yX3_refer yX3_refer, .code yX3_refer cX3_refer 4 (some .int), .methodLink RX3 56 yX3_replicate, .instanceMethod yX3_replicate, .selects RX3 yX3_replicate yX3_replicate, .code yX3_replicate cX3_replicate 6 (some .int), .fieldLink RX3 19 "ReplicaHeapModel" "used" "[I"] ++ wsX30)
def wsX3_look : List Cond := .code yX3_look cX3_look 2 (some .int) :: ([.fieldLink RX3 66 "ReplicaHeapModel" "scan" "I", .fieldLink RX3 7 "ReplicaHeapModel" "kind" "[I", .fieldLink RX3 45 "ReplicaHeapModel" "now" "I", .fieldLink RX3 13 "ReplicaHeapModel" "has" "[I", .methodLink RX3 52 yX3_other, .instanceMethod yX3_other, .selects RX3 yX3_other yX3_other, .initialized RX3, .code yX3_other cX3_other 1 (some .int), .methodLink RX3 48 yX3_at, .static yX3_at, .code yX3_at cX3_at 2 (some .int), .methodLink RX3 63 yX3_refer, .instanceMethod yX3_refer, .selects RX3 yX3_refer yX3_refer, .code yX3_refer cX3_refer 4 (some .int), .fieldLink RX3 16 "ReplicaHeapModel" "replica" "[I", .methodLink RX3 56 yX3_replicate, .instanceMethod yX3_replicate, .selects RX3 yX3_replicate yX3_replicate, .code yX3_replicate cX3_replicate 6 (some .int), .fieldLink RX3 19 "ReplicaHeapModel" "used" "[I"] ++ wsX30)
def wsX3_nextRoot : List Cond := .code yX3_nextRoot cX3_nextRoot 2 (some .int) :: ([.fieldLink RX3 22 "ReplicaHeapModel" "refers" "[Z", .fieldLink RX3 16 "ReplicaHeapModel" "replica" "[I", .fieldLink RX3 45 "ReplicaHeapModel" "now" "I", .fieldLink RX3 26 "ReplicaHeapModel" "root" "[I", .methodLink RX3 48 yX3_at, .static yX3_at, .initialized RX3, .code yX3_at cX3_at 2 (some .int)] ++ wsX30)
def wsX3_flip : List Cond := .code yX3_flip cX3_flip 2 (some .int) :: ([.fieldLink RX3 26 "ReplicaHeapModel" "root" "[I", .fieldLink RX3 22 "ReplicaHeapModel" "refers" "[Z", .fieldLink RX3 16 "ReplicaHeapModel" "replica" "[I", .fieldLink RX3 45 "ReplicaHeapModel" "now" "I", .fieldLink RX3 19 "ReplicaHeapModel" "used" "[I", .fieldLink RX3 69 "ReplicaHeapModel" "running" "Z", .fieldLink RX3 66 "ReplicaHeapModel" "scan" "I", .fieldLink RX3 73 "ReplicaHeapModel" "logged" "I", .fieldLink RX3 60 "ReplicaHeapModel" "taken" "I", .fieldLink RX3 76 "ReplicaHeapModel" "flips" "I", .methodLink RX3 48 yX3_at, .static yX3_at, .initialized RX3, .code yX3_at cX3_at 2 (some .int), .methodLink RX3 52 yX3_other, .instanceMethod yX3_other, .selects RX3 yX3_other yX3_other, .code yX3_other cX3_other 1 (some .int)] ++ wsX30)
def wsX3_step_r1 : List Cond := [Cond.fieldLink RX3 60 "ReplicaHeapModel" "taken" "I", Cond.fieldLink RX3 73 "ReplicaHeapModel" "logged" "I", Cond.fieldLink RX3 66 "ReplicaHeapModel" "scan" "I", Cond.fieldLink RX3 19 "ReplicaHeapModel" "used" "[I", Cond.fieldLink RX3 26 "ReplicaHeapModel" "root" "[I", Cond.fieldLink RX3 91 "ReplicaHeapModel" "units" "I", Cond.methodLink RX3 79 yX3_take, Cond.instanceMethod yX3_take, Cond.selects RX3 yX3_take yX3_take, Cond.initialized RX3, Cond.code yX3_take cX3_take 5 (some .int), Cond.fieldLink RX3 29 "ReplicaHeapModel" "logPlace" "[I", Cond.fieldLink RX3 32 "ReplicaHeapModel" "logField" "[I", Cond.fieldLink RX3 45 "ReplicaHeapModel" "now" "I", Cond.fieldLink RX3 16 "ReplicaHeapModel" "replica" "[I", Cond.fieldLink RX3 7 "ReplicaHeapModel" "kind" "[I", Cond.fieldLink RX3 13 "ReplicaHeapModel" "has" "[I", Cond.methodLink RX3 48 yX3_at, Cond.static yX3_at, Cond.code yX3_at cX3_at 2 (some .int), Cond.methodLink RX3 52 yX3_other, Cond.instanceMethod yX3_other, Cond.selects RX3 yX3_other yX3_other, Cond.code yX3_other cX3_other 1 (some .int)]
def wsX3_step_r2 : List Cond := [Cond.methodLink RX3 63 yX3_refer, Cond.instanceMethod yX3_refer, Cond.selects RX3 yX3_refer yX3_refer, Cond.code yX3_refer cX3_refer 4 (some .int), Cond.methodLink RX3 56 yX3_replicate, Cond.instanceMethod yX3_replicate, Cond.selects RX3 yX3_replicate yX3_replicate, Cond.code yX3_replicate cX3_replicate 6 (some .int), Cond.methodLink RX3 82 yX3_look, Cond.instanceMethod yX3_look, Cond.selects RX3 yX3_look yX3_look, Cond.code yX3_look cX3_look 2 (some .int), Cond.methodLink RX3 85 yX3_nextRoot, Cond.instanceMethod yX3_nextRoot, Cond.selects RX3 yX3_nextRoot yX3_nextRoot, Cond.code yX3_nextRoot cX3_nextRoot 2 (some .int), Cond.fieldLink RX3 22 "ReplicaHeapModel" "refers" "[Z", Cond.methodLink RX3 88 yX3_flip, Cond.instanceMethod yX3_flip, Cond.selects RX3 yX3_flip yX3_flip, Cond.code yX3_flip cX3_flip 2 (some .int), Cond.fieldLink RX3 69 "ReplicaHeapModel" "running" "Z", Cond.fieldLink RX3 76 "ReplicaHeapModel" "flips" "I"]
def wsX3_step : List Cond := .code yX3_step cX3_step 2 (some .int) :: ((wsX3_step_r1 ++ wsX3_step_r2) ++ wsX30)
def wsX3_work_r1 : List Cond := [Cond.fieldLink RX3 69 "ReplicaHeapModel" "running" "Z", Cond.methodLink RX3 94 yX3_step, Cond.instanceMethod yX3_step, Cond.selects RX3 yX3_step yX3_step, Cond.initialized RX3, Cond.code yX3_step cX3_step 2 (some .int), Cond.fieldLink RX3 60 "ReplicaHeapModel" "taken" "I", Cond.fieldLink RX3 73 "ReplicaHeapModel" "logged" "I", Cond.fieldLink RX3 66 "ReplicaHeapModel" "scan" "I", Cond.fieldLink RX3 19 "ReplicaHeapModel" "used" "[I", Cond.fieldLink RX3 26 "ReplicaHeapModel" "root" "[I", Cond.fieldLink RX3 91 "ReplicaHeapModel" "units" "I", Cond.methodLink RX3 79 yX3_take, Cond.instanceMethod yX3_take, Cond.selects RX3 yX3_take yX3_take, Cond.code yX3_take cX3_take 5 (some .int), Cond.fieldLink RX3 29 "ReplicaHeapModel" "logPlace" "[I", Cond.fieldLink RX3 32 "ReplicaHeapModel" "logField" "[I", Cond.fieldLink RX3 45 "ReplicaHeapModel" "now" "I", Cond.fieldLink RX3 16 "ReplicaHeapModel" "replica" "[I", Cond.fieldLink RX3 7 "ReplicaHeapModel" "kind" "[I", Cond.fieldLink RX3 13 "ReplicaHeapModel" "has" "[I", Cond.methodLink RX3 48 yX3_at, Cond.static yX3_at]
def wsX3_work_r2 : List Cond := [Cond.code yX3_at cX3_at 2 (some .int), Cond.methodLink RX3 52 yX3_other, Cond.instanceMethod yX3_other, Cond.selects RX3 yX3_other yX3_other, Cond.code yX3_other cX3_other 1 (some .int), Cond.methodLink RX3 63 yX3_refer, Cond.instanceMethod yX3_refer, Cond.selects RX3 yX3_refer yX3_refer, Cond.code yX3_refer cX3_refer 4 (some .int), Cond.methodLink RX3 56 yX3_replicate, Cond.instanceMethod yX3_replicate, Cond.selects RX3 yX3_replicate yX3_replicate, Cond.code yX3_replicate cX3_replicate 6 (some .int), Cond.methodLink RX3 82 yX3_look, Cond.instanceMethod yX3_look, Cond.selects RX3 yX3_look yX3_look, Cond.code yX3_look cX3_look 2 (some .int), Cond.methodLink RX3 85 yX3_nextRoot, Cond.instanceMethod yX3_nextRoot, Cond.selects RX3 yX3_nextRoot yX3_nextRoot, Cond.code yX3_nextRoot cX3_nextRoot 2 (some .int), Cond.fieldLink RX3 22 "ReplicaHeapModel" "refers" "[Z", Cond.methodLink RX3 88 yX3_flip, Cond.instanceMethod yX3_flip]
def wsX3_work_r3 : List Cond := [Cond.selects RX3 yX3_flip yX3_flip, Cond.code yX3_flip cX3_flip 2 (some .int), Cond.fieldLink RX3 76 "ReplicaHeapModel" "flips" "I"]
def wsX3_work : List Cond := .code yX3_work cX3_work 3 (some .int) :: ((wsX3_work_r1 ++ (wsX3_work_r2 ++ wsX3_work_r3)) ++ wsX30)
def wsX3_begin : List Cond := .code yX3_begin cX3_begin 1 none :: ([.fieldLink RX3 69 "ReplicaHeapModel" "running" "Z", .fieldLink RX3 66 "ReplicaHeapModel" "scan" "I", .fieldLink RX3 73 "ReplicaHeapModel" "logged" "I", .fieldLink RX3 60 "ReplicaHeapModel" "taken" "I", .fieldLink RX3 19 "ReplicaHeapModel" "used" "[I", .methodLink RX3 52 yX3_other, .instanceMethod yX3_other, .selects RX3 yX3_other yX3_other, .initialized RX3, .code yX3_other cX3_other 1 (some .int), .fieldLink RX3 45 "ReplicaHeapModel" "now" "I"] ++ wsX30)
def wsX3_open : List Cond := .code yX3_open cX3_open 1 none :: ([.fieldLink RX3 91 "ReplicaHeapModel" "units" "I", .fieldLink RX3 97 "ReplicaHeapModel" "before" "I"] ++ wsX30)
def wsX3_close : List Cond := .code yX3_close cX3_close 1 none :: ([.fieldLink RX3 91 "ReplicaHeapModel" "units" "I", .fieldLink RX3 97 "ReplicaHeapModel" "before" "I", .fieldLink RX3 100 "ReplicaHeapModel" "most" "I"] ++ wsX30)
def wsX3_isRoot : List Cond := .code yX3_isRoot cX3_isRoot 1 (some .boolean) :: ([])
def wsX3_has : List Cond := .code yX3_has cX3_has 2 (some .boolean) :: ([.fieldLink RX3 19 "ReplicaHeapModel" "used" "[I", .fieldLink RX3 45 "ReplicaHeapModel" "now" "I", .fieldLink RX3 35 "ReplicaHeapModel" "cells" "I"] ++ wsX30)
def wsX3_pause_r1 : List Cond := [Cond.fieldLink RX3 103 "ReplicaHeapModel" "pauses" "I", Cond.methodLink RX3 106 yX3_begin, Cond.instanceMethod yX3_begin, Cond.selects RX3 yX3_begin yX3_begin, Cond.initialized RX3, Cond.code yX3_begin cX3_begin 1 none, Cond.fieldLink RX3 69 "ReplicaHeapModel" "running" "Z", Cond.fieldLink RX3 66 "ReplicaHeapModel" "scan" "I", Cond.fieldLink RX3 73 "ReplicaHeapModel" "logged" "I", Cond.fieldLink RX3 60 "ReplicaHeapModel" "taken" "I", Cond.fieldLink RX3 19 "ReplicaHeapModel" "used" "[I", Cond.methodLink RX3 52 yX3_other, Cond.instanceMethod yX3_other, Cond.selects RX3 yX3_other yX3_other, Cond.code yX3_other cX3_other 1 (some .int), Cond.fieldLink RX3 45 "ReplicaHeapModel" "now" "I", Cond.methodLink RX3 109 yX3_work, Cond.instanceMethod yX3_work, Cond.selects RX3 yX3_work yX3_work, Cond.code yX3_work cX3_work 3 (some .int), Cond.methodLink RX3 94 yX3_step, Cond.instanceMethod yX3_step, Cond.selects RX3 yX3_step yX3_step, Cond.code yX3_step cX3_step 2 (some .int)]
def wsX3_pause_r2 : List Cond := [Cond.fieldLink RX3 26 "ReplicaHeapModel" "root" "[I", Cond.fieldLink RX3 91 "ReplicaHeapModel" "units" "I", Cond.methodLink RX3 79 yX3_take, Cond.instanceMethod yX3_take, Cond.selects RX3 yX3_take yX3_take, Cond.code yX3_take cX3_take 5 (some .int), Cond.fieldLink RX3 29 "ReplicaHeapModel" "logPlace" "[I", Cond.fieldLink RX3 32 "ReplicaHeapModel" "logField" "[I", Cond.fieldLink RX3 16 "ReplicaHeapModel" "replica" "[I", Cond.fieldLink RX3 7 "ReplicaHeapModel" "kind" "[I", Cond.fieldLink RX3 13 "ReplicaHeapModel" "has" "[I", Cond.methodLink RX3 48 yX3_at, Cond.static yX3_at, Cond.code yX3_at cX3_at 2 (some .int), Cond.methodLink RX3 63 yX3_refer, Cond.instanceMethod yX3_refer, Cond.selects RX3 yX3_refer yX3_refer, Cond.code yX3_refer cX3_refer 4 (some .int), Cond.methodLink RX3 56 yX3_replicate, Cond.instanceMethod yX3_replicate, Cond.selects RX3 yX3_replicate yX3_replicate, Cond.code yX3_replicate cX3_replicate 6 (some .int), Cond.methodLink RX3 82 yX3_look, Cond.instanceMethod yX3_look]
def wsX3_pause_r3 : List Cond := [Cond.selects RX3 yX3_look yX3_look, Cond.code yX3_look cX3_look 2 (some .int), Cond.methodLink RX3 85 yX3_nextRoot, Cond.instanceMethod yX3_nextRoot, Cond.selects RX3 yX3_nextRoot yX3_nextRoot, Cond.code yX3_nextRoot cX3_nextRoot 2 (some .int), Cond.fieldLink RX3 22 "ReplicaHeapModel" "refers" "[Z", Cond.methodLink RX3 88 yX3_flip, Cond.instanceMethod yX3_flip, Cond.selects RX3 yX3_flip yX3_flip, Cond.code yX3_flip cX3_flip 2 (some .int), Cond.fieldLink RX3 76 "ReplicaHeapModel" "flips" "I"]
def wsX3_pause : List Cond := .code yX3_pause cX3_pause 2 none :: ((wsX3_pause_r1 ++ (wsX3_pause_r2 ++ wsX3_pause_r3)) ++ wsX30)
def wsX3_alloc_r1 : List Cond := [Cond.fieldLink RX3 42 "ReplicaHeapModel" "thrown" "I", Cond.fieldLink RX3 69 "ReplicaHeapModel" "running" "Z", Cond.fieldLink RX3 19 "ReplicaHeapModel" "used" "[I", Cond.fieldLink RX3 45 "ReplicaHeapModel" "now" "I", Cond.fieldLink RX3 7 "ReplicaHeapModel" "kind" "[I", Cond.fieldLink RX3 13 "ReplicaHeapModel" "has" "[I", Cond.fieldLink RX3 16 "ReplicaHeapModel" "replica" "[I", Cond.fieldLink RX3 124 "ReplicaHeapModel" "made" "I", Cond.fieldLink RX3 22 "ReplicaHeapModel" "refers" "[Z", Cond.fieldLink RX3 26 "ReplicaHeapModel" "root" "[I", Cond.fieldLink RX3 39 "ReplicaHeapModel" "quantum" "I", Cond.fieldLink RX3 35 "ReplicaHeapModel" "cells" "I", Cond.methodLink RX3 112 yX3_isRoot, Cond.static yX3_isRoot, Cond.initialized RX3, Cond.code yX3_isRoot cX3_isRoot 1 (some .boolean), Cond.methodLink RX3 116 yX3_open, Cond.instanceMethod yX3_open, Cond.selects RX3 yX3_open yX3_open, Cond.code yX3_open cX3_open 1 none, Cond.fieldLink RX3 91 "ReplicaHeapModel" "units" "I", Cond.fieldLink RX3 97 "ReplicaHeapModel" "before" "I", Cond.methodLink RX3 119 yX3_has, Cond.instanceMethod yX3_has]
def wsX3_alloc_r2 : List Cond := [Cond.selects RX3 yX3_has yX3_has, Cond.code yX3_has cX3_has 2 (some .boolean), Cond.methodLink RX3 121 yX3_pause, Cond.instanceMethod yX3_pause, Cond.selects RX3 yX3_pause yX3_pause, Cond.code yX3_pause cX3_pause 2 none, Cond.fieldLink RX3 103 "ReplicaHeapModel" "pauses" "I", Cond.methodLink RX3 106 yX3_begin, Cond.instanceMethod yX3_begin, Cond.selects RX3 yX3_begin yX3_begin, Cond.code yX3_begin cX3_begin 1 none, Cond.fieldLink RX3 66 "ReplicaHeapModel" "scan" "I", Cond.fieldLink RX3 73 "ReplicaHeapModel" "logged" "I", Cond.fieldLink RX3 60 "ReplicaHeapModel" "taken" "I", Cond.methodLink RX3 52 yX3_other, Cond.instanceMethod yX3_other, Cond.selects RX3 yX3_other yX3_other, Cond.code yX3_other cX3_other 1 (some .int), Cond.methodLink RX3 109 yX3_work, Cond.instanceMethod yX3_work, Cond.selects RX3 yX3_work yX3_work, Cond.code yX3_work cX3_work 3 (some .int), Cond.methodLink RX3 94 yX3_step, Cond.instanceMethod yX3_step]
def wsX3_alloc_r3 : List Cond := [Cond.selects RX3 yX3_step yX3_step, Cond.code yX3_step cX3_step 2 (some .int), Cond.methodLink RX3 79 yX3_take, Cond.instanceMethod yX3_take, Cond.selects RX3 yX3_take yX3_take, Cond.code yX3_take cX3_take 5 (some .int), Cond.fieldLink RX3 29 "ReplicaHeapModel" "logPlace" "[I", Cond.fieldLink RX3 32 "ReplicaHeapModel" "logField" "[I", Cond.methodLink RX3 48 yX3_at, Cond.static yX3_at, Cond.code yX3_at cX3_at 2 (some .int), Cond.methodLink RX3 63 yX3_refer, Cond.instanceMethod yX3_refer, Cond.selects RX3 yX3_refer yX3_refer, Cond.code yX3_refer cX3_refer 4 (some .int), Cond.methodLink RX3 56 yX3_replicate, Cond.instanceMethod yX3_replicate, Cond.selects RX3 yX3_replicate yX3_replicate, Cond.code yX3_replicate cX3_replicate 6 (some .int), Cond.methodLink RX3 82 yX3_look, Cond.instanceMethod yX3_look, Cond.selects RX3 yX3_look yX3_look, Cond.code yX3_look cX3_look 2 (some .int), Cond.methodLink RX3 85 yX3_nextRoot]
def wsX3_alloc_r4 : List Cond := [Cond.instanceMethod yX3_nextRoot, Cond.selects RX3 yX3_nextRoot yX3_nextRoot, Cond.code yX3_nextRoot cX3_nextRoot 2 (some .int), Cond.methodLink RX3 88 yX3_flip, Cond.instanceMethod yX3_flip, Cond.selects RX3 yX3_flip yX3_flip, Cond.code yX3_flip cX3_flip 2 (some .int), Cond.fieldLink RX3 76 "ReplicaHeapModel" "flips" "I", Cond.methodLink RX3 127 yX3_close, Cond.instanceMethod yX3_close, Cond.selects RX3 yX3_close yX3_close, Cond.code yX3_close cX3_close 1 none, Cond.fieldLink RX3 100 "ReplicaHeapModel" "most" "I"]
def wsX3_alloc : List Cond := .code yX3_alloc cX3_alloc 6 (some .boolean) :: ((wsX3_alloc_r1 ++ (wsX3_alloc_r2 ++ (wsX3_alloc_r3 ++ wsX3_alloc_r4))) ++ wsX30)
def wsX3_hasField : List Cond := .code yX3_hasField cX3_hasField 3 (some .boolean) :: ([.fieldLink RX3 22 "ReplicaHeapModel" "refers" "[Z", .fieldLink RX3 13 "ReplicaHeapModel" "has" "[I", .fieldLink RX3 45 "ReplicaHeapModel" "now" "I", .fieldLink RX3 26 "ReplicaHeapModel" "root" "[I", .methodLink RX3 48 yX3_at, .static yX3_at, .initialized RX3, .code yX3_at cX3_at 2 (some .int)] ++ wsX30)
def wsX3_change_r1 : List Cond := [Cond.fieldLink RX3 45 "ReplicaHeapModel" "now" "I", Cond.fieldLink RX3 26 "ReplicaHeapModel" "root" "[I", Cond.fieldLink RX3 7 "ReplicaHeapModel" "kind" "[I", Cond.fieldLink RX3 13 "ReplicaHeapModel" "has" "[I", Cond.fieldLink RX3 69 "ReplicaHeapModel" "running" "Z", Cond.fieldLink RX3 29 "ReplicaHeapModel" "logPlace" "[I", Cond.fieldLink RX3 73 "ReplicaHeapModel" "logged" "I", Cond.fieldLink RX3 32 "ReplicaHeapModel" "logField" "[I", Cond.fieldLink RX3 39 "ReplicaHeapModel" "quantum" "I", Cond.methodLink RX3 48 yX3_at, Cond.static yX3_at, Cond.initialized RX3, Cond.code yX3_at cX3_at 2 (some .int), Cond.methodLink RX3 116 yX3_open, Cond.instanceMethod yX3_open, Cond.selects RX3 yX3_open yX3_open, Cond.code yX3_open cX3_open 1 none, Cond.fieldLink RX3 91 "ReplicaHeapModel" "units" "I", Cond.fieldLink RX3 97 "ReplicaHeapModel" "before" "I", Cond.methodLink RX3 109 yX3_work, Cond.instanceMethod yX3_work, Cond.selects RX3 yX3_work yX3_work, Cond.code yX3_work cX3_work 3 (some .int), Cond.methodLink RX3 94 yX3_step]
def wsX3_change_r2 : List Cond := [Cond.instanceMethod yX3_step, Cond.selects RX3 yX3_step yX3_step, Cond.code yX3_step cX3_step 2 (some .int), Cond.fieldLink RX3 60 "ReplicaHeapModel" "taken" "I", Cond.fieldLink RX3 66 "ReplicaHeapModel" "scan" "I", Cond.fieldLink RX3 19 "ReplicaHeapModel" "used" "[I", Cond.methodLink RX3 79 yX3_take, Cond.instanceMethod yX3_take, Cond.selects RX3 yX3_take yX3_take, Cond.code yX3_take cX3_take 5 (some .int), Cond.fieldLink RX3 16 "ReplicaHeapModel" "replica" "[I", Cond.methodLink RX3 52 yX3_other, Cond.instanceMethod yX3_other, Cond.selects RX3 yX3_other yX3_other, Cond.code yX3_other cX3_other 1 (some .int), Cond.methodLink RX3 63 yX3_refer, Cond.instanceMethod yX3_refer, Cond.selects RX3 yX3_refer yX3_refer, Cond.code yX3_refer cX3_refer 4 (some .int), Cond.methodLink RX3 56 yX3_replicate, Cond.instanceMethod yX3_replicate, Cond.selects RX3 yX3_replicate yX3_replicate, Cond.code yX3_replicate cX3_replicate 6 (some .int), Cond.methodLink RX3 82 yX3_look]
def wsX3_change_r3 : List Cond := [Cond.instanceMethod yX3_look, Cond.selects RX3 yX3_look yX3_look, Cond.code yX3_look cX3_look 2 (some .int), Cond.methodLink RX3 85 yX3_nextRoot, Cond.instanceMethod yX3_nextRoot, Cond.selects RX3 yX3_nextRoot yX3_nextRoot, Cond.code yX3_nextRoot cX3_nextRoot 2 (some .int), Cond.fieldLink RX3 22 "ReplicaHeapModel" "refers" "[Z", Cond.methodLink RX3 88 yX3_flip, Cond.instanceMethod yX3_flip, Cond.selects RX3 yX3_flip yX3_flip, Cond.code yX3_flip cX3_flip 2 (some .int), Cond.fieldLink RX3 76 "ReplicaHeapModel" "flips" "I", Cond.methodLink RX3 127 yX3_close, Cond.instanceMethod yX3_close, Cond.selects RX3 yX3_close yX3_close, Cond.code yX3_close cX3_close 1 none, Cond.fieldLink RX3 100 "ReplicaHeapModel" "most" "I"]
def wsX3_change : List Cond := .code yX3_change cX3_change 7 none :: ((wsX3_change_r1 ++ (wsX3_change_r2 ++ wsX3_change_r3)) ++ wsX30)
def wsX3_put_r1 : List Cond := [Cond.fieldLink RX3 42 "ReplicaHeapModel" "thrown" "I", Cond.fieldLink RX3 22 "ReplicaHeapModel" "refers" "[Z", Cond.fieldLink RX3 45 "ReplicaHeapModel" "now" "I", Cond.fieldLink RX3 26 "ReplicaHeapModel" "root" "[I", Cond.methodLink RX3 112 yX3_isRoot, Cond.static yX3_isRoot, Cond.initialized RX3, Cond.code yX3_isRoot cX3_isRoot 1 (some .boolean), Cond.methodLink RX3 130 yX3_hasField, Cond.instanceMethod yX3_hasField, Cond.selects RX3 yX3_hasField yX3_hasField, Cond.code yX3_hasField cX3_hasField 3 (some .boolean), Cond.fieldLink RX3 13 "ReplicaHeapModel" "has" "[I", Cond.methodLink RX3 48 yX3_at, Cond.static yX3_at, Cond.code yX3_at cX3_at 2 (some .int), Cond.methodLink RX3 134 yX3_change, Cond.instanceMethod yX3_change, Cond.selects RX3 yX3_change yX3_change, Cond.code yX3_change cX3_change 7 none, Cond.fieldLink RX3 7 "ReplicaHeapModel" "kind" "[I", Cond.fieldLink RX3 69 "ReplicaHeapModel" "running" "Z", Cond.fieldLink RX3 29 "ReplicaHeapModel" "logPlace" "[I", Cond.fieldLink RX3 73 "ReplicaHeapModel" "logged" "I"]
def wsX3_put_r2 : List Cond := [Cond.fieldLink RX3 32 "ReplicaHeapModel" "logField" "[I", Cond.fieldLink RX3 39 "ReplicaHeapModel" "quantum" "I", Cond.methodLink RX3 116 yX3_open, Cond.instanceMethod yX3_open, Cond.selects RX3 yX3_open yX3_open, Cond.code yX3_open cX3_open 1 none, Cond.fieldLink RX3 91 "ReplicaHeapModel" "units" "I", Cond.fieldLink RX3 97 "ReplicaHeapModel" "before" "I", Cond.methodLink RX3 109 yX3_work, Cond.instanceMethod yX3_work, Cond.selects RX3 yX3_work yX3_work, Cond.code yX3_work cX3_work 3 (some .int), Cond.methodLink RX3 94 yX3_step, Cond.instanceMethod yX3_step, Cond.selects RX3 yX3_step yX3_step, Cond.code yX3_step cX3_step 2 (some .int), Cond.fieldLink RX3 60 "ReplicaHeapModel" "taken" "I", Cond.fieldLink RX3 66 "ReplicaHeapModel" "scan" "I", Cond.fieldLink RX3 19 "ReplicaHeapModel" "used" "[I", Cond.methodLink RX3 79 yX3_take, Cond.instanceMethod yX3_take, Cond.selects RX3 yX3_take yX3_take, Cond.code yX3_take cX3_take 5 (some .int), Cond.fieldLink RX3 16 "ReplicaHeapModel" "replica" "[I"]
def wsX3_put_r3 : List Cond := [Cond.methodLink RX3 52 yX3_other, Cond.instanceMethod yX3_other, Cond.selects RX3 yX3_other yX3_other, Cond.code yX3_other cX3_other 1 (some .int), Cond.methodLink RX3 63 yX3_refer, Cond.instanceMethod yX3_refer, Cond.selects RX3 yX3_refer yX3_refer, Cond.code yX3_refer cX3_refer 4 (some .int), Cond.methodLink RX3 56 yX3_replicate, Cond.instanceMethod yX3_replicate, Cond.selects RX3 yX3_replicate yX3_replicate, Cond.code yX3_replicate cX3_replicate 6 (some .int), Cond.methodLink RX3 82 yX3_look, Cond.instanceMethod yX3_look, Cond.selects RX3 yX3_look yX3_look, Cond.code yX3_look cX3_look 2 (some .int), Cond.methodLink RX3 85 yX3_nextRoot, Cond.instanceMethod yX3_nextRoot, Cond.selects RX3 yX3_nextRoot yX3_nextRoot, Cond.code yX3_nextRoot cX3_nextRoot 2 (some .int), Cond.methodLink RX3 88 yX3_flip, Cond.instanceMethod yX3_flip, Cond.selects RX3 yX3_flip yX3_flip, Cond.code yX3_flip cX3_flip 2 (some .int)]
def wsX3_put_r4 : List Cond := [Cond.fieldLink RX3 76 "ReplicaHeapModel" "flips" "I", Cond.methodLink RX3 127 yX3_close, Cond.instanceMethod yX3_close, Cond.selects RX3 yX3_close yX3_close, Cond.code yX3_close cX3_close 1 none, Cond.fieldLink RX3 100 "ReplicaHeapModel" "most" "I"]
def wsX3_put : List Cond := .code yX3_put cX3_put 4 none :: ((wsX3_put_r1 ++ (wsX3_put_r2 ++ (wsX3_put_r3 ++ wsX3_put_r4))) ++ wsX30)
def wsX3_putNumber_r1 : List Cond := [Cond.fieldLink RX3 42 "ReplicaHeapModel" "thrown" "I", Cond.methodLink RX3 112 yX3_isRoot, Cond.static yX3_isRoot, Cond.initialized RX3, Cond.code yX3_isRoot cX3_isRoot 1 (some .boolean), Cond.methodLink RX3 130 yX3_hasField, Cond.instanceMethod yX3_hasField, Cond.selects RX3 yX3_hasField yX3_hasField, Cond.code yX3_hasField cX3_hasField 3 (some .boolean), Cond.fieldLink RX3 22 "ReplicaHeapModel" "refers" "[Z", Cond.fieldLink RX3 13 "ReplicaHeapModel" "has" "[I", Cond.fieldLink RX3 45 "ReplicaHeapModel" "now" "I", Cond.fieldLink RX3 26 "ReplicaHeapModel" "root" "[I", Cond.methodLink RX3 48 yX3_at, Cond.static yX3_at, Cond.code yX3_at cX3_at 2 (some .int), Cond.methodLink RX3 134 yX3_change, Cond.instanceMethod yX3_change, Cond.selects RX3 yX3_change yX3_change, Cond.code yX3_change cX3_change 7 none, Cond.fieldLink RX3 7 "ReplicaHeapModel" "kind" "[I", Cond.fieldLink RX3 69 "ReplicaHeapModel" "running" "Z", Cond.fieldLink RX3 29 "ReplicaHeapModel" "logPlace" "[I", Cond.fieldLink RX3 73 "ReplicaHeapModel" "logged" "I"]
def wsX3_putNumber_r2 : List Cond := [Cond.fieldLink RX3 32 "ReplicaHeapModel" "logField" "[I", Cond.fieldLink RX3 39 "ReplicaHeapModel" "quantum" "I", Cond.methodLink RX3 116 yX3_open, Cond.instanceMethod yX3_open, Cond.selects RX3 yX3_open yX3_open, Cond.code yX3_open cX3_open 1 none, Cond.fieldLink RX3 91 "ReplicaHeapModel" "units" "I", Cond.fieldLink RX3 97 "ReplicaHeapModel" "before" "I", Cond.methodLink RX3 109 yX3_work, Cond.instanceMethod yX3_work, Cond.selects RX3 yX3_work yX3_work, Cond.code yX3_work cX3_work 3 (some .int), Cond.methodLink RX3 94 yX3_step, Cond.instanceMethod yX3_step, Cond.selects RX3 yX3_step yX3_step, Cond.code yX3_step cX3_step 2 (some .int), Cond.fieldLink RX3 60 "ReplicaHeapModel" "taken" "I", Cond.fieldLink RX3 66 "ReplicaHeapModel" "scan" "I", Cond.fieldLink RX3 19 "ReplicaHeapModel" "used" "[I", Cond.methodLink RX3 79 yX3_take, Cond.instanceMethod yX3_take, Cond.selects RX3 yX3_take yX3_take, Cond.code yX3_take cX3_take 5 (some .int), Cond.fieldLink RX3 16 "ReplicaHeapModel" "replica" "[I"]
def wsX3_putNumber_r3 : List Cond := [Cond.methodLink RX3 52 yX3_other, Cond.instanceMethod yX3_other, Cond.selects RX3 yX3_other yX3_other, Cond.code yX3_other cX3_other 1 (some .int), Cond.methodLink RX3 63 yX3_refer, Cond.instanceMethod yX3_refer, Cond.selects RX3 yX3_refer yX3_refer, Cond.code yX3_refer cX3_refer 4 (some .int), Cond.methodLink RX3 56 yX3_replicate, Cond.instanceMethod yX3_replicate, Cond.selects RX3 yX3_replicate yX3_replicate, Cond.code yX3_replicate cX3_replicate 6 (some .int), Cond.methodLink RX3 82 yX3_look, Cond.instanceMethod yX3_look, Cond.selects RX3 yX3_look yX3_look, Cond.code yX3_look cX3_look 2 (some .int), Cond.methodLink RX3 85 yX3_nextRoot, Cond.instanceMethod yX3_nextRoot, Cond.selects RX3 yX3_nextRoot yX3_nextRoot, Cond.code yX3_nextRoot cX3_nextRoot 2 (some .int), Cond.methodLink RX3 88 yX3_flip, Cond.instanceMethod yX3_flip, Cond.selects RX3 yX3_flip yX3_flip, Cond.code yX3_flip cX3_flip 2 (some .int)]
def wsX3_putNumber_r4 : List Cond := [Cond.fieldLink RX3 76 "ReplicaHeapModel" "flips" "I", Cond.methodLink RX3 127 yX3_close, Cond.instanceMethod yX3_close, Cond.selects RX3 yX3_close yX3_close, Cond.code yX3_close cX3_close 1 none, Cond.fieldLink RX3 100 "ReplicaHeapModel" "most" "I"]
def wsX3_putNumber : List Cond := .code yX3_putNumber cX3_putNumber 4 none :: ((wsX3_putNumber_r1 ++ (wsX3_putNumber_r2 ++ (wsX3_putNumber_r3 ++ wsX3_putNumber_r4))) ++ wsX30)
def wsX3_get : List Cond := .code yX3_get cX3_get 5 none :: ([.fieldLink RX3 42 "ReplicaHeapModel" "thrown" "I", .fieldLink RX3 45 "ReplicaHeapModel" "now" "I", .fieldLink RX3 26 "ReplicaHeapModel" "root" "[I", .fieldLink RX3 22 "ReplicaHeapModel" "refers" "[Z", .fieldLink RX3 7 "ReplicaHeapModel" "kind" "[I", .fieldLink RX3 13 "ReplicaHeapModel" "has" "[I", .methodLink RX3 112 yX3_isRoot, .static yX3_isRoot, .initialized RX3, .code yX3_isRoot cX3_isRoot 1 (some .boolean), .methodLink RX3 130 yX3_hasField, .instanceMethod yX3_hasField, .selects RX3 yX3_hasField yX3_hasField, .code yX3_hasField cX3_hasField 3 (some .boolean), .methodLink RX3 48 yX3_at, .static yX3_at, .code yX3_at cX3_at 2 (some .int)] ++ wsX30)
def wsX3_move : List Cond := .code yX3_move cX3_move 3 (some .boolean) :: ([.fieldLink RX3 42 "ReplicaHeapModel" "thrown" "I", .fieldLink RX3 22 "ReplicaHeapModel" "refers" "[Z", .fieldLink RX3 26 "ReplicaHeapModel" "root" "[I", .methodLink RX3 112 yX3_isRoot, .static yX3_isRoot, .initialized RX3, .code yX3_isRoot cX3_isRoot 1 (some .boolean)] ++ wsX30)
def wsX3_number : List Cond := .code yX3_number cX3_number 3 (some .boolean) :: ([.fieldLink RX3 42 "ReplicaHeapModel" "thrown" "I", .fieldLink RX3 22 "ReplicaHeapModel" "refers" "[Z", .fieldLink RX3 26 "ReplicaHeapModel" "root" "[I", .methodLink RX3 112 yX3_isRoot, .static yX3_isRoot, .initialized RX3, .code yX3_isRoot cX3_isRoot 1 (some .boolean)] ++ wsX30)
def wsX3_collect_r1 : List Cond := [Cond.fieldLink RX3 42 "ReplicaHeapModel" "thrown" "I", Cond.methodLink RX3 116 yX3_open, Cond.instanceMethod yX3_open, Cond.selects RX3 yX3_open yX3_open, Cond.initialized RX3, Cond.code yX3_open cX3_open 1 none, Cond.fieldLink RX3 91 "ReplicaHeapModel" "units" "I", Cond.fieldLink RX3 97 "ReplicaHeapModel" "before" "I", Cond.methodLink RX3 106 yX3_begin, Cond.instanceMethod yX3_begin, Cond.selects RX3 yX3_begin yX3_begin, Cond.code yX3_begin cX3_begin 1 none, Cond.fieldLink RX3 69 "ReplicaHeapModel" "running" "Z", Cond.fieldLink RX3 66 "ReplicaHeapModel" "scan" "I", Cond.fieldLink RX3 73 "ReplicaHeapModel" "logged" "I", Cond.fieldLink RX3 60 "ReplicaHeapModel" "taken" "I", Cond.fieldLink RX3 19 "ReplicaHeapModel" "used" "[I", Cond.methodLink RX3 52 yX3_other, Cond.instanceMethod yX3_other, Cond.selects RX3 yX3_other yX3_other, Cond.code yX3_other cX3_other 1 (some .int), Cond.fieldLink RX3 45 "ReplicaHeapModel" "now" "I", Cond.methodLink RX3 109 yX3_work, Cond.instanceMethod yX3_work]
def wsX3_collect_r2 : List Cond := [Cond.selects RX3 yX3_work yX3_work, Cond.code yX3_work cX3_work 3 (some .int), Cond.methodLink RX3 94 yX3_step, Cond.instanceMethod yX3_step, Cond.selects RX3 yX3_step yX3_step, Cond.code yX3_step cX3_step 2 (some .int), Cond.fieldLink RX3 26 "ReplicaHeapModel" "root" "[I", Cond.methodLink RX3 79 yX3_take, Cond.instanceMethod yX3_take, Cond.selects RX3 yX3_take yX3_take, Cond.code yX3_take cX3_take 5 (some .int), Cond.fieldLink RX3 29 "ReplicaHeapModel" "logPlace" "[I", Cond.fieldLink RX3 32 "ReplicaHeapModel" "logField" "[I", Cond.fieldLink RX3 16 "ReplicaHeapModel" "replica" "[I", Cond.fieldLink RX3 7 "ReplicaHeapModel" "kind" "[I", Cond.fieldLink RX3 13 "ReplicaHeapModel" "has" "[I", Cond.methodLink RX3 48 yX3_at, Cond.static yX3_at, Cond.code yX3_at cX3_at 2 (some .int), Cond.methodLink RX3 63 yX3_refer, Cond.instanceMethod yX3_refer, Cond.selects RX3 yX3_refer yX3_refer, Cond.code yX3_refer cX3_refer 4 (some .int), Cond.methodLink RX3 56 yX3_replicate]
def wsX3_collect_r3 : List Cond := [Cond.instanceMethod yX3_replicate, Cond.selects RX3 yX3_replicate yX3_replicate, Cond.code yX3_replicate cX3_replicate 6 (some .int), Cond.methodLink RX3 82 yX3_look, Cond.instanceMethod yX3_look, Cond.selects RX3 yX3_look yX3_look, Cond.code yX3_look cX3_look 2 (some .int), Cond.methodLink RX3 85 yX3_nextRoot, Cond.instanceMethod yX3_nextRoot, Cond.selects RX3 yX3_nextRoot yX3_nextRoot, Cond.code yX3_nextRoot cX3_nextRoot 2 (some .int), Cond.fieldLink RX3 22 "ReplicaHeapModel" "refers" "[Z", Cond.methodLink RX3 88 yX3_flip, Cond.instanceMethod yX3_flip, Cond.selects RX3 yX3_flip yX3_flip, Cond.code yX3_flip cX3_flip 2 (some .int), Cond.fieldLink RX3 76 "ReplicaHeapModel" "flips" "I", Cond.methodLink RX3 127 yX3_close, Cond.instanceMethod yX3_close, Cond.selects RX3 yX3_close yX3_close, Cond.code yX3_close cX3_close 1 none, Cond.fieldLink RX3 100 "ReplicaHeapModel" "most" "I"]
def wsX3_collect : List Cond := .code yX3_collect cX3_collect 3 (some .int) :: ((wsX3_collect_r1 ++ (wsX3_collect_r2 ++ wsX3_collect_r3)) ++ wsX30)
def wsX3_look_ : List Cond := .code yX3_look_ cX3_look_ 4 (some .int) :: ([.fieldLink RX3 42 "ReplicaHeapModel" "thrown" "I", .fieldLink RX3 45 "ReplicaHeapModel" "now" "I", .fieldLink RX3 22 "ReplicaHeapModel" "refers" "[Z", .fieldLink RX3 26 "ReplicaHeapModel" "root" "[I", .fieldLink RX3 13 "ReplicaHeapModel" "has" "[I", .fieldLink RX3 16 "ReplicaHeapModel" "replica" "[I", .methodLink RX3 112 yX3_isRoot, .static yX3_isRoot, .initialized RX3, .code yX3_isRoot cX3_isRoot 1 (some .boolean), .methodLink RX3 48 yX3_at, .static yX3_at, .code yX3_at cX3_at 2 (some .int)] ++ wsX30)
def wsX3_field : List Cond := .code yX3_field cX3_field 5 (some .int) :: ([.fieldLink RX3 42 "ReplicaHeapModel" "thrown" "I", .fieldLink RX3 45 "ReplicaHeapModel" "now" "I", .fieldLink RX3 26 "ReplicaHeapModel" "root" "[I", .fieldLink RX3 13 "ReplicaHeapModel" "has" "[I", .fieldLink RX3 7 "ReplicaHeapModel" "kind" "[I", .methodLink RX3 112 yX3_isRoot, .static yX3_isRoot, .initialized RX3, .code yX3_isRoot cX3_isRoot 1 (some .boolean), .methodLink RX3 130 yX3_hasField, .instanceMethod yX3_hasField, .selects RX3 yX3_hasField yX3_hasField, .code yX3_hasField cX3_hasField 3 (some .boolean), .fieldLink RX3 22 "ReplicaHeapModel" "refers" "[Z", .methodLink RX3 48 yX3_at, .static yX3_at, .code yX3_at cX3_at 2 (some .int)] ++ wsX30)
def wsX3_cell : List Cond := .code yX3_cell cX3_cell 6 (some .int) :: ([.fieldLink RX3 19 "ReplicaHeapModel" "used" "[I", .fieldLink RX3 42 "ReplicaHeapModel" "thrown" "I", .fieldLink RX3 7 "ReplicaHeapModel" "kind" "[I", .fieldLink RX3 13 "ReplicaHeapModel" "has" "[I", .fieldLink RX3 16 "ReplicaHeapModel" "replica" "[I", .methodLink RX3 48 yX3_at, .static yX3_at, .initialized RX3, .code yX3_at cX3_at 2 (some .int)] ++ wsX30)
def wsX3_entry : List Cond := .code yX3_entry cX3_entry 3 (some .int) :: ([.fieldLink RX3 73 "ReplicaHeapModel" "logged" "I", .fieldLink RX3 42 "ReplicaHeapModel" "thrown" "I", .fieldLink RX3 29 "ReplicaHeapModel" "logPlace" "[I", .fieldLink RX3 32 "ReplicaHeapModel" "logField" "[I"] ++ wsX30)
def wsX3_count : List Cond := .code yX3_count cX3_count 2 (some .int) :: ([.fieldLink RX3 42 "ReplicaHeapModel" "thrown" "I", .fieldLink RX3 45 "ReplicaHeapModel" "now" "I", .fieldLink RX3 69 "ReplicaHeapModel" "running" "Z", .fieldLink RX3 19 "ReplicaHeapModel" "used" "[I", .fieldLink RX3 66 "ReplicaHeapModel" "scan" "I", .fieldLink RX3 73 "ReplicaHeapModel" "logged" "I", .fieldLink RX3 60 "ReplicaHeapModel" "taken" "I", .fieldLink RX3 76 "ReplicaHeapModel" "flips" "I", .fieldLink RX3 103 "ReplicaHeapModel" "pauses" "I", .fieldLink RX3 91 "ReplicaHeapModel" "units" "I", .fieldLink RX3 100 "ReplicaHeapModel" "most" "I", .fieldLink RX3 124 "ReplicaHeapModel" "made" "I", .fieldLink RX3 35 "ReplicaHeapModel" "cells" "I", .methodLink RX3 52 yX3_other, .instanceMethod yX3_other, .selects RX3 yX3_other yX3_other, .initialized RX3, .code yX3_other cX3_other 1 (some .int)] ++ wsX30)
def wsJ9_max_7cf53 : List Cond := .code yJ9_max_7cf53 cJ9_max_7cf53 2 (some .int) :: ([])
def wsL_cell : List Cond := .code yL_cell cL_cell 2 (some .int) :: ([])
def wsL_alloc_r1 : List Cond := [Cond.classLink RL 13 "java/lang/IllegalArgumentException", Cond.methodLink RL 7 yX2_alloc, Cond.instanceMethod yX2_alloc, Cond.selects RX2 yX2_alloc yX2_alloc, Cond.initialized RX2, Cond.code yX2_alloc cX2_alloc 3 (some .boolean), Cond.classLink RX2 47 "java/lang/IllegalArgumentException", Cond.initialized "java/lang/IllegalArgumentException", Cond.fieldLink RX2 50 "ReplicaHeap" "unitsOfCall" "I", Cond.fieldLink RX2 36 "ReplicaHeap" "current" "LReplicaHeap$Space;", Cond.fieldLink RX2 68 "ReplicaHeap" "made" "I", Cond.fieldLink RX2 71 "ReplicaHeap" "running" "Z", Cond.fieldLink RX2 28 "ReplicaHeap" "quantum" "I", Cond.fieldLink RX2 24 "ReplicaHeap" "cells" "I", Cond.methodLink RX2 43 yX2_isRoot, Cond.static yX2_isRoot, Cond.code yX2_isRoot cX2_isRoot 1 (some .boolean), Cond.methodLink RX2 53 yX2_makeRoom, Cond.instanceMethod yX2_makeRoom, Cond.selects RX2 yX2_makeRoom yX2_makeRoom, Cond.code yX2_makeRoom cX2_makeRoom 2 none, Cond.fieldLink RX2 126 "ReplicaHeap" "pauses" "I", Cond.constant RX2 101 (1000000), Cond.instanceMethod yX1_hasRoom]
def wsL_alloc_r2 : List Cond := [Cond.initialized RX1, Cond.selects RX1 yX1_hasRoom yX1_hasRoom, Cond.code yX1_hasRoom cX1_hasRoom 2 (some .boolean), Cond.fieldLink RX1 25 "ReplicaHeap$Space" "used" "I", Cond.fieldLink RX1 15 "ReplicaHeap$Space" "kinds" "[I", Cond.methodLink RX2 75 yX2_work, Cond.instanceMethod yX2_work, Cond.selects RX2 yX2_work yX2_work, Cond.code yX2_work cX2_work 4 none, Cond.fieldLink RX2 129 "ReplicaHeap" "unitsSoFar" "I", Cond.fieldLink RX2 132 "ReplicaHeap" "mostUnits" "I", Cond.methodLink RX2 146 Lib.Math.max.name, Cond.static Lib.Math.max.name, Cond.initialized "java/lang/Math", Cond.code Lib.Math.max.name Lib.Math.max.code 2 (some .int), Cond.methodLink RX2 142 yX2_step, Cond.instanceMethod yX2_step, Cond.selects RX2 yX2_step yX2_step, Cond.code yX2_step cX2_step 2 (some .int), Cond.fieldLink RX2 20 "ReplicaHeap" "log" "LReplicaHeap$Log;", Cond.fieldLink RX2 117 "ReplicaHeap" "scan" "I", Cond.fieldLink RX2 40 "ReplicaHeap" "other" "LReplicaHeap$Space;", Cond.fieldLink RX2 13 "ReplicaHeap" "rootValues" "[I", Cond.methodLink RX2 152 yX2_takeEntry]
def wsL_alloc_r3 : List Cond := [Cond.instanceMethod yX2_takeEntry, Cond.selects RX2 yX2_takeEntry yX2_takeEntry, Cond.code yX2_takeEntry cX2_takeEntry 4 (some .int), Cond.instanceMethod yX1_setCell, Cond.selects RX1 yX1_setCell yX1_setCell, Cond.code yX1_setCell cX1_setCell 4 none, Cond.fieldLink RX1 19 "ReplicaHeap$Space" "values" "[I", Cond.methodLink RX2 155 yX2_forward, Cond.instanceMethod yX2_forward, Cond.selects RX2 yX2_forward yX2_forward, Cond.code yX2_forward cX2_forward 4 (some .int), Cond.methodLink RX2 161 yX2_replicate, Cond.instanceMethod yX2_replicate, Cond.selects RX2 yX2_replicate yX2_replicate, Cond.code yX2_replicate cX2_replicate 5 (some .int), Cond.methodLink RX2 158 yX2_rootWithoutReplica, Cond.instanceMethod yX2_rootWithoutReplica, Cond.selects RX2 yX2_rootWithoutReplica yX2_rootWithoutReplica, Cond.code yX2_rootWithoutReplica cX2_rootWithoutReplica 2 (some .int), Cond.fieldLink RX2 9 "ReplicaHeap" "rootRefers" "[Z", Cond.methodLink RX2 164 yX2_flip, Cond.instanceMethod yX2_flip, Cond.selects RX2 yX2_flip yX2_flip, Cond.code yX2_flip cX2_flip 2 none]
def wsL_alloc_r4 : List Cond := [Cond.fieldLink RX2 123 "ReplicaHeap" "flips" "I", Cond.instanceMethod yX0_clear, Cond.initialized RX0, Cond.selects RX0 yX0_clear yX0_clear, Cond.code yX0_clear cX0_clear 1 none, Cond.fieldLink RX0 18 "ReplicaHeap$Log" "size" "I", Cond.fieldLink RX0 25 "ReplicaHeap$Log" "taken" "I", Cond.instanceMethod yX1_layObject, Cond.selects RX1 yX1_layObject yX1_layObject, Cond.code yX1_layObject cX1_layObject 4 (some .int), Cond.fieldLink RX1 22 "ReplicaHeap$Space" "replicas" "[I", Cond.methodLink RX1 28 yX1_setCell, Cond.methodLink RX2 64 yX2_setRoot, Cond.instanceMethod yX2_setRoot, Cond.selects RX2 yX2_setRoot yX2_setRoot, Cond.code yX2_setRoot cX2_setRoot 4 none]
def wsL_alloc : List Cond := .codeWith yL_alloc cL_alloc 5 (some .int) [(0, 17, 20, 13)] :: ((wsL_alloc_r1 ++ (wsL_alloc_r2 ++ (wsL_alloc_r3 ++ wsL_alloc_r4))) ++ wsX20 ++ wsX10 ++ wsX00 ++ (vx_at0 RX2 49 "java/lang/IllegalArgumentException" ["java/lang/RuntimeException", "java/lang/Exception"]).filter goodWord)
def wsL_put_r1 : List Cond := [Cond.classLink RL 13 "java/lang/IllegalArgumentException", Cond.classLink RL 19 "java/lang/IllegalStateException", Cond.methodLink RL 15 yX2_put, Cond.instanceMethod yX2_put, Cond.selects RX2 yX2_put yX2_put, Cond.initialized RX2, Cond.code yX2_put cX2_put 5 none, Cond.classLink RX2 47 "java/lang/IllegalArgumentException", Cond.initialized "java/lang/IllegalArgumentException", Cond.classLink RX2 85 "java/lang/IllegalStateException", Cond.initialized "java/lang/IllegalStateException", Cond.fieldLink RX2 9 "ReplicaHeap" "rootRefers" "[Z", Cond.fieldLink RX2 36 "ReplicaHeap" "current" "LReplicaHeap$Space;", Cond.fieldLink RX2 13 "ReplicaHeap" "rootValues" "[I", Cond.methodLink RX2 43 yX2_isRoot, Cond.static yX2_isRoot, Cond.code yX2_isRoot cX2_isRoot 1 (some .boolean), Cond.methodLink RX2 81 yX2_hasField, Cond.instanceMethod yX2_hasField, Cond.selects RX2 yX2_hasField yX2_hasField, Cond.code yX2_hasField cX2_hasField 3 (some .boolean), Cond.methodLink RX2 91 yX2_change, Cond.instanceMethod yX2_change, Cond.selects RX2 yX2_change yX2_change]
def wsL_put_r2 : List Cond := [Cond.code yX2_change cX2_change 5 none, Cond.fieldLink RX2 71 "ReplicaHeap" "running" "Z", Cond.fieldLink RX2 50 "ReplicaHeap" "unitsOfCall" "I", Cond.fieldLink RX2 20 "ReplicaHeap" "log" "LReplicaHeap$Log;", Cond.fieldLink RX2 28 "ReplicaHeap" "quantum" "I", Cond.instanceMethod yX1_setCell, Cond.initialized RX1, Cond.selects RX1 yX1_setCell yX1_setCell, Cond.code yX1_setCell cX1_setCell 4 none, Cond.fieldLink RX1 15 "ReplicaHeap$Space" "kinds" "[I", Cond.fieldLink RX1 19 "ReplicaHeap$Space" "values" "[I", Cond.instanceMethod yX0_add, Cond.initialized RX0, Cond.selects RX0 yX0_add yX0_add, Cond.code yX0_add cX0_add 3 none, Cond.fieldLink RX0 18 "ReplicaHeap$Log" "size" "I", Cond.fieldLink RX0 9 "ReplicaHeap$Log" "places" "[I", Cond.fieldLink RX0 15 "ReplicaHeap$Log" "fields" "[I", Cond.methodLink RX0 22 yX0_clear, Cond.instanceMethod yX0_clear, Cond.selects RX0 yX0_clear yX0_clear, Cond.code yX0_clear cX0_clear 1 none, Cond.fieldLink RX0 25 "ReplicaHeap$Log" "taken" "I", Cond.methodLink RX2 75 yX2_work]
def wsL_put_r3 : List Cond := [Cond.instanceMethod yX2_work, Cond.selects RX2 yX2_work yX2_work, Cond.code yX2_work cX2_work 4 none, Cond.constant RX2 101 (1000000), Cond.fieldLink RX2 129 "ReplicaHeap" "unitsSoFar" "I", Cond.fieldLink RX2 132 "ReplicaHeap" "mostUnits" "I", Cond.methodLink RX2 146 Lib.Math.max.name, Cond.static Lib.Math.max.name, Cond.initialized "java/lang/Math", Cond.code Lib.Math.max.name Lib.Math.max.code 2 (some .int), Cond.methodLink RX2 142 yX2_step, Cond.instanceMethod yX2_step, Cond.selects RX2 yX2_step yX2_step, Cond.code yX2_step cX2_step 2 (some .int), Cond.fieldLink RX2 117 "ReplicaHeap" "scan" "I", Cond.fieldLink RX2 40 "ReplicaHeap" "other" "LReplicaHeap$Space;", Cond.methodLink RX2 152 yX2_takeEntry, Cond.instanceMethod yX2_takeEntry, Cond.selects RX2 yX2_takeEntry yX2_takeEntry, Cond.code yX2_takeEntry cX2_takeEntry 4 (some .int), Cond.methodLink RX2 155 yX2_forward, Cond.instanceMethod yX2_forward, Cond.selects RX2 yX2_forward yX2_forward, Cond.code yX2_forward cX2_forward 4 (some .int)]
def wsL_put_r4 : List Cond := [Cond.methodLink RX2 161 yX2_replicate, Cond.instanceMethod yX2_replicate, Cond.selects RX2 yX2_replicate yX2_replicate, Cond.code yX2_replicate cX2_replicate 5 (some .int), Cond.methodLink RX2 158 yX2_rootWithoutReplica, Cond.instanceMethod yX2_rootWithoutReplica, Cond.selects RX2 yX2_rootWithoutReplica yX2_rootWithoutReplica, Cond.code yX2_rootWithoutReplica cX2_rootWithoutReplica 2 (some .int), Cond.methodLink RX2 164 yX2_flip, Cond.instanceMethod yX2_flip, Cond.selects RX2 yX2_flip yX2_flip, Cond.code yX2_flip cX2_flip 2 none, Cond.fieldLink RX2 123 "ReplicaHeap" "flips" "I"]
def wsL_put : List Cond := .codeWith yL_put cL_put 5 (some .int) [(0, 7, 10, 13), (0, 7, 14, 19)] :: ((wsL_put_r1 ++ (wsL_put_r2 ++ (wsL_put_r3 ++ wsL_put_r4))) ++ wsX20 ++ wsX10 ++ wsX00 ++ (vx_at0 RX2 49 "java/lang/IllegalArgumentException" ["java/lang/RuntimeException", "java/lang/Exception"]).filter goodWord ++ (vx_at0 RX2 87 "java/lang/IllegalStateException" ["java/lang/RuntimeException", "java/lang/Exception"]).filter goodWord)
def wsL_putNumber_r1 : List Cond := [Cond.classLink RL 13 "java/lang/IllegalArgumentException", Cond.classLink RL 19 "java/lang/IllegalStateException", Cond.methodLink RL 21 yX2_putNumber, Cond.instanceMethod yX2_putNumber, Cond.selects RX2 yX2_putNumber yX2_putNumber, Cond.initialized RX2, Cond.code yX2_putNumber cX2_putNumber 4 none, Cond.classLink RX2 47 "java/lang/IllegalArgumentException", Cond.initialized "java/lang/IllegalArgumentException", Cond.classLink RX2 85 "java/lang/IllegalStateException", Cond.initialized "java/lang/IllegalStateException", Cond.fieldLink RX2 13 "ReplicaHeap" "rootValues" "[I", Cond.methodLink RX2 43 yX2_isRoot, Cond.static yX2_isRoot, Cond.code yX2_isRoot cX2_isRoot 1 (some .boolean), Cond.methodLink RX2 81 yX2_hasField, Cond.instanceMethod yX2_hasField, Cond.selects RX2 yX2_hasField yX2_hasField, Cond.code yX2_hasField cX2_hasField 3 (some .boolean), Cond.fieldLink RX2 9 "ReplicaHeap" "rootRefers" "[Z", Cond.fieldLink RX2 36 "ReplicaHeap" "current" "LReplicaHeap$Space;", Cond.methodLink RX2 91 yX2_change, Cond.instanceMethod yX2_change, Cond.selects RX2 yX2_change yX2_change]
def wsL_putNumber_r2 : List Cond := [Cond.code yX2_change cX2_change 5 none, Cond.fieldLink RX2 71 "ReplicaHeap" "running" "Z", Cond.fieldLink RX2 50 "ReplicaHeap" "unitsOfCall" "I", Cond.fieldLink RX2 20 "ReplicaHeap" "log" "LReplicaHeap$Log;", Cond.fieldLink RX2 28 "ReplicaHeap" "quantum" "I", Cond.instanceMethod yX1_setCell, Cond.initialized RX1, Cond.selects RX1 yX1_setCell yX1_setCell, Cond.code yX1_setCell cX1_setCell 4 none, Cond.fieldLink RX1 15 "ReplicaHeap$Space" "kinds" "[I", Cond.fieldLink RX1 19 "ReplicaHeap$Space" "values" "[I", Cond.instanceMethod yX0_add, Cond.initialized RX0, Cond.selects RX0 yX0_add yX0_add, Cond.code yX0_add cX0_add 3 none, Cond.fieldLink RX0 18 "ReplicaHeap$Log" "size" "I", Cond.fieldLink RX0 9 "ReplicaHeap$Log" "places" "[I", Cond.fieldLink RX0 15 "ReplicaHeap$Log" "fields" "[I", Cond.methodLink RX0 22 yX0_clear, Cond.instanceMethod yX0_clear, Cond.selects RX0 yX0_clear yX0_clear, Cond.code yX0_clear cX0_clear 1 none, Cond.fieldLink RX0 25 "ReplicaHeap$Log" "taken" "I", Cond.methodLink RX2 75 yX2_work]
def wsL_putNumber_r3 : List Cond := [Cond.instanceMethod yX2_work, Cond.selects RX2 yX2_work yX2_work, Cond.code yX2_work cX2_work 4 none, Cond.constant RX2 101 (1000000), Cond.fieldLink RX2 129 "ReplicaHeap" "unitsSoFar" "I", Cond.fieldLink RX2 132 "ReplicaHeap" "mostUnits" "I", Cond.methodLink RX2 146 Lib.Math.max.name, Cond.static Lib.Math.max.name, Cond.initialized "java/lang/Math", Cond.code Lib.Math.max.name Lib.Math.max.code 2 (some .int), Cond.methodLink RX2 142 yX2_step, Cond.instanceMethod yX2_step, Cond.selects RX2 yX2_step yX2_step, Cond.code yX2_step cX2_step 2 (some .int), Cond.fieldLink RX2 117 "ReplicaHeap" "scan" "I", Cond.fieldLink RX2 40 "ReplicaHeap" "other" "LReplicaHeap$Space;", Cond.methodLink RX2 152 yX2_takeEntry, Cond.instanceMethod yX2_takeEntry, Cond.selects RX2 yX2_takeEntry yX2_takeEntry, Cond.code yX2_takeEntry cX2_takeEntry 4 (some .int), Cond.methodLink RX2 155 yX2_forward, Cond.instanceMethod yX2_forward, Cond.selects RX2 yX2_forward yX2_forward, Cond.code yX2_forward cX2_forward 4 (some .int)]
def wsL_putNumber_r4 : List Cond := [Cond.methodLink RX2 161 yX2_replicate, Cond.instanceMethod yX2_replicate, Cond.selects RX2 yX2_replicate yX2_replicate, Cond.code yX2_replicate cX2_replicate 5 (some .int), Cond.methodLink RX2 158 yX2_rootWithoutReplica, Cond.instanceMethod yX2_rootWithoutReplica, Cond.selects RX2 yX2_rootWithoutReplica yX2_rootWithoutReplica, Cond.code yX2_rootWithoutReplica cX2_rootWithoutReplica 2 (some .int), Cond.methodLink RX2 164 yX2_flip, Cond.instanceMethod yX2_flip, Cond.selects RX2 yX2_flip yX2_flip, Cond.code yX2_flip cX2_flip 2 none, Cond.fieldLink RX2 123 "ReplicaHeap" "flips" "I"]
def wsL_putNumber : List Cond := .codeWith yL_putNumber cL_putNumber 5 (some .int) [(0, 7, 10, 13), (0, 7, 14, 19)] :: ((wsL_putNumber_r1 ++ (wsL_putNumber_r2 ++ (wsL_putNumber_r3 ++ wsL_putNumber_r4))) ++ wsX20 ++ wsX10 ++ wsX00 ++ (vx_at0 RX2 49 "java/lang/IllegalArgumentException" ["java/lang/RuntimeException", "java/lang/Exception"]).filter goodWord ++ (vx_at0 RX2 87 "java/lang/IllegalStateException" ["java/lang/RuntimeException", "java/lang/Exception"]).filter goodWord)
def wsL_get_r1 : List Cond := [Cond.classLink RL 13 "java/lang/IllegalArgumentException", Cond.classLink RL 19 "java/lang/IllegalStateException", Cond.methodLink RL 24 yX2_get, Cond.instanceMethod yX2_get, Cond.selects RX2 yX2_get yX2_get, Cond.initialized RX2, Cond.code yX2_get cX2_get 5 none, Cond.classLink RX2 47 "java/lang/IllegalArgumentException", Cond.initialized "java/lang/IllegalArgumentException", Cond.classLink RX2 85 "java/lang/IllegalStateException", Cond.initialized "java/lang/IllegalStateException", Cond.fieldLink RX2 13 "ReplicaHeap" "rootValues" "[I", Cond.fieldLink RX2 36 "ReplicaHeap" "current" "LReplicaHeap$Space;", Cond.methodLink RX2 43 yX2_isRoot, Cond.static yX2_isRoot, Cond.code yX2_isRoot cX2_isRoot 1 (some .boolean), Cond.methodLink RX2 81 yX2_hasField, Cond.instanceMethod yX2_hasField, Cond.selects RX2 yX2_hasField yX2_hasField, Cond.code yX2_hasField cX2_hasField 3 (some .boolean), Cond.fieldLink RX2 9 "ReplicaHeap" "rootRefers" "[Z", Cond.methodLink RX2 64 yX2_setRoot, Cond.instanceMethod yX2_setRoot, Cond.selects RX2 yX2_setRoot yX2_setRoot]
def wsL_get_r2 : List Cond := [Cond.code yX2_setRoot cX2_setRoot 4 none]
def wsL_get : List Cond := .codeWith yL_get cL_get 5 (some .int) [(0, 7, 10, 13), (0, 7, 14, 19)] :: ((wsL_get_r1 ++ wsL_get_r2) ++ wsX20 ++ wsX10 ++ (vx_at0 RX2 49 "java/lang/IllegalArgumentException" ["java/lang/RuntimeException", "java/lang/Exception"]).filter goodWord ++ (vx_at0 RX2 87 "java/lang/IllegalStateException" ["java/lang/RuntimeException", "java/lang/Exception"]).filter goodWord)
def wsL_collect_r1 : List Cond := [Cond.classLink RL 13 "java/lang/IllegalArgumentException", Cond.methodLink RL 27 yX2_collect, Cond.instanceMethod yX2_collect, Cond.selects RX2 yX2_collect yX2_collect, Cond.initialized RX2, Cond.code yX2_collect cX2_collect 2 (some .int), Cond.classLink RX2 47 "java/lang/IllegalArgumentException", Cond.initialized "java/lang/IllegalArgumentException", Cond.fieldLink RX2 50 "ReplicaHeap" "unitsOfCall" "I", Cond.fieldLink RX2 71 "ReplicaHeap" "running" "Z", Cond.constant RX2 101 (1000000), Cond.methodLink RX2 75 yX2_work, Cond.instanceMethod yX2_work, Cond.selects RX2 yX2_work yX2_work, Cond.code yX2_work cX2_work 4 none, Cond.fieldLink RX2 129 "ReplicaHeap" "unitsSoFar" "I", Cond.fieldLink RX2 132 "ReplicaHeap" "mostUnits" "I", Cond.methodLink RX2 146 Lib.Math.max.name, Cond.static Lib.Math.max.name, Cond.initialized "java/lang/Math", Cond.code Lib.Math.max.name Lib.Math.max.code 2 (some .int), Cond.methodLink RX2 142 yX2_step, Cond.instanceMethod yX2_step, Cond.selects RX2 yX2_step yX2_step]
def wsL_collect_r2 : List Cond := [Cond.code yX2_step cX2_step 2 (some .int), Cond.fieldLink RX2 20 "ReplicaHeap" "log" "LReplicaHeap$Log;", Cond.fieldLink RX2 117 "ReplicaHeap" "scan" "I", Cond.fieldLink RX2 40 "ReplicaHeap" "other" "LReplicaHeap$Space;", Cond.fieldLink RX2 13 "ReplicaHeap" "rootValues" "[I", Cond.methodLink RX2 152 yX2_takeEntry, Cond.instanceMethod yX2_takeEntry, Cond.selects RX2 yX2_takeEntry yX2_takeEntry, Cond.code yX2_takeEntry cX2_takeEntry 4 (some .int), Cond.fieldLink RX2 36 "ReplicaHeap" "current" "LReplicaHeap$Space;", Cond.instanceMethod yX1_setCell, Cond.initialized RX1, Cond.selects RX1 yX1_setCell yX1_setCell, Cond.code yX1_setCell cX1_setCell 4 none, Cond.fieldLink RX1 15 "ReplicaHeap$Space" "kinds" "[I", Cond.fieldLink RX1 19 "ReplicaHeap$Space" "values" "[I", Cond.methodLink RX2 155 yX2_forward, Cond.instanceMethod yX2_forward, Cond.selects RX2 yX2_forward yX2_forward, Cond.code yX2_forward cX2_forward 4 (some .int), Cond.methodLink RX2 161 yX2_replicate, Cond.instanceMethod yX2_replicate, Cond.selects RX2 yX2_replicate yX2_replicate, Cond.code yX2_replicate cX2_replicate 5 (some .int)]
def wsL_collect_r3 : List Cond := [Cond.methodLink RX2 158 yX2_rootWithoutReplica, Cond.instanceMethod yX2_rootWithoutReplica, Cond.selects RX2 yX2_rootWithoutReplica yX2_rootWithoutReplica, Cond.code yX2_rootWithoutReplica cX2_rootWithoutReplica 2 (some .int), Cond.fieldLink RX2 9 "ReplicaHeap" "rootRefers" "[Z", Cond.methodLink RX2 164 yX2_flip, Cond.instanceMethod yX2_flip, Cond.selects RX2 yX2_flip yX2_flip, Cond.code yX2_flip cX2_flip 2 none, Cond.fieldLink RX2 123 "ReplicaHeap" "flips" "I", Cond.instanceMethod yX0_clear, Cond.initialized RX0, Cond.selects RX0 yX0_clear yX0_clear, Cond.code yX0_clear cX0_clear 1 none, Cond.fieldLink RX0 18 "ReplicaHeap$Log" "size" "I", Cond.fieldLink RX0 25 "ReplicaHeap$Log" "taken" "I"]
def wsL_collect : List Cond := .codeWith yL_collect cL_collect 4 (some .int) [(0, 9, 12, 13)] :: ((wsL_collect_r1 ++ (wsL_collect_r2 ++ wsL_collect_r3)) ++ wsX20 ++ wsX00 ++ wsX10 ++ (vx_at0 RX2 49 "java/lang/IllegalArgumentException" ["java/lang/RuntimeException", "java/lang/Exception"]).filter goodWord)
def wsL_look : List Cond := .codeWith yL_look cL_look 5 (some .int) [(0, 10, 13, 35)] :: ([.classLink RL 35 "java/lang/IndexOutOfBoundsException", .methodLink RL 31 yX2_look, .instanceMethod yX2_look, .selects RX2 yX2_look yX2_look, .initialized RX2, .code yX2_look cX2_look 5 (some .int), .classLink RX2 102 "java/lang/IndexOutOfBoundsException", .initialized "java/lang/IndexOutOfBoundsException", .fieldLink RX2 9 "ReplicaHeap" "rootRefers" "[Z", .fieldLink RX2 13 "ReplicaHeap" "rootValues" "[I", .fieldLink RX2 36 "ReplicaHeap" "current" "LReplicaHeap$Space;", .methodLink RX2 43 yX2_isRoot, .static yX2_isRoot, .code yX2_isRoot cX2_isRoot 1 (some .boolean)] ++ wsX20 ++ wsX10 ++ (vx_at0 RX2 104 "java/lang/IndexOutOfBoundsException" ["java/lang/RuntimeException", "java/lang/Exception"]).filter goodWord)
def wsL_field : List Cond := .codeWith yL_field cL_field 6 (some .int) [(0, 12, 15, 35)] :: ([.classLink RL 35 "java/lang/IndexOutOfBoundsException", .methodLink RL 37 yX2_field, .instanceMethod yX2_field, .selects RX2 yX2_field yX2_field, .initialized RX2, .code yX2_field cX2_field 5 (some .int), .classLink RX2 102 "java/lang/IndexOutOfBoundsException", .initialized "java/lang/IndexOutOfBoundsException", .fieldLink RX2 13 "ReplicaHeap" "rootValues" "[I", .fieldLink RX2 36 "ReplicaHeap" "current" "LReplicaHeap$Space;", .methodLink RX2 43 yX2_isRoot, .static yX2_isRoot, .code yX2_isRoot cX2_isRoot 1 (some .boolean), .methodLink RX2 81 yX2_hasField, .instanceMethod yX2_hasField, .selects RX2 yX2_hasField yX2_hasField, .code yX2_hasField cX2_hasField 3 (some .boolean), .fieldLink RX2 9 "ReplicaHeap" "rootRefers" "[Z"] ++ wsX20 ++ wsX10 ++ (vx_at0 RX2 104 "java/lang/IndexOutOfBoundsException" ["java/lang/RuntimeException", "java/lang/Exception"]).filter goodWord)
def wsL_cell_ : List Cond := .codeWith yL_cell_ cL_cell_ 6 (some .int) [(0, 12, 15, 35)] :: ([.classLink RL 35 "java/lang/IndexOutOfBoundsException", .methodLink RL 41 yX2_cell, .instanceMethod yX2_cell, .selects RX2 yX2_cell yX2_cell, .initialized RX2, .code yX2_cell cX2_cell 5 (some .int), .classLink RX2 102 "java/lang/IndexOutOfBoundsException", .initialized "java/lang/IndexOutOfBoundsException", .fieldLink RX2 36 "ReplicaHeap" "current" "LReplicaHeap$Space;", .fieldLink RX2 40 "ReplicaHeap" "other" "LReplicaHeap$Space;"] ++ wsX20 ++ wsX10 ++ (vx_at0 RX2 104 "java/lang/IndexOutOfBoundsException" ["java/lang/RuntimeException", "java/lang/Exception"]).filter goodWord)
def wsL_entry : List Cond := .codeWith yL_entry cL_entry 5 (some .int) [(0, 10, 13, 35)] :: ([.classLink RL 35 "java/lang/IndexOutOfBoundsException", .methodLink RL 44 yX2_entry, .instanceMethod yX2_entry, .selects RX2 yX2_entry yX2_entry, .initialized RX2, .code yX2_entry cX2_entry 3 (some .int), .classLink RX2 102 "java/lang/IndexOutOfBoundsException", .initialized "java/lang/IndexOutOfBoundsException", .fieldLink RX2 20 "ReplicaHeap" "log" "LReplicaHeap$Log;"] ++ wsX20 ++ wsX00 ++ (vx_at0 RX2 104 "java/lang/IndexOutOfBoundsException" ["java/lang/RuntimeException", "java/lang/Exception"]).filter goodWord)
def wsL_law0_r1 : List Cond := [Cond.classLink RL 8 RX2, Cond.instantiable RX2 15, Cond.initialized RX2, Cond.classLink RL 55 RX3, Cond.instantiable RX3 22, Cond.initialized RX3, Cond.arrayClass .long, Cond.methodLink RL 47 yL_cell, Cond.static yL_cell, Cond.initialized RL, Cond.code yL_cell cL_cell 2 (some .int), Cond.methodLink RL 52 yX2_init, Cond.instanceMethod yX2_init, Cond.code yX2_init cX2_init 3 none, Cond.methodLink RX2 1 objectInit, Cond.instanceMethod objectInit, Cond.code objectInit ⟨#[0xb1]⟩ 1 none, Cond.arrayClass .boolean, Cond.fieldLink RX2 9 "ReplicaHeap" "rootRefers" "[Z", Cond.arrayClass .int, Cond.fieldLink RX2 13 "ReplicaHeap" "rootValues" "[I", Cond.classLink RX2 17 RX0, Cond.instantiable RX0 4, Cond.initialized RX0]
def wsL_law0_r2 : List Cond := [Cond.fieldLink RX2 20 "ReplicaHeap" "log" "LReplicaHeap$Log;", Cond.fieldLink RX2 24 "ReplicaHeap" "cells" "I", Cond.fieldLink RX2 28 "ReplicaHeap" "quantum" "I", Cond.classLink RX2 31 RX1, Cond.instantiable RX1 5, Cond.initialized RX1, Cond.fieldLink RX2 36 "ReplicaHeap" "current" "LReplicaHeap$Space;", Cond.fieldLink RX2 40 "ReplicaHeap" "other" "LReplicaHeap$Space;", Cond.instanceMethod yX0_init, Cond.code yX0_init cX0_init 1 none, Cond.methodLink RX0 3 objectInit, Cond.fieldLink RX0 9 "ReplicaHeap$Log" "places" "[I", Cond.fieldLink RX0 15 "ReplicaHeap$Log" "fields" "[I", Cond.instanceMethod yX1_init, Cond.code yX1_init cX1_init 3 none, Cond.methodLink RX1 3 objectInit, Cond.fieldLink RX1 9 "ReplicaHeap$Space" "index" "I", Cond.fieldLink RX1 15 "ReplicaHeap$Space" "kinds" "[I", Cond.fieldLink RX1 19 "ReplicaHeap$Space" "values" "[I", Cond.fieldLink RX1 22 "ReplicaHeap$Space" "replicas" "[I", Cond.methodLink RL 57 yX3_init, Cond.instanceMethod yX3_init, Cond.code yX3_init cX3_init 3 none, Cond.methodLink RX3 1 objectInit]
def wsL_law0_r3 : List Cond := [Cond.fieldLink RX3 7 "ReplicaHeapModel" "kind" "[I", Cond.fieldLink RX3 13 "ReplicaHeapModel" "has" "[I", Cond.fieldLink RX3 16 "ReplicaHeapModel" "replica" "[I", Cond.fieldLink RX3 19 "ReplicaHeapModel" "used" "[I", Cond.fieldLink RX3 22 "ReplicaHeapModel" "refers" "[Z", Cond.fieldLink RX3 26 "ReplicaHeapModel" "root" "[I", Cond.fieldLink RX3 29 "ReplicaHeapModel" "logPlace" "[I", Cond.fieldLink RX3 32 "ReplicaHeapModel" "logField" "[I", Cond.fieldLink RX3 35 "ReplicaHeapModel" "cells" "I", Cond.fieldLink RX3 39 "ReplicaHeapModel" "quantum" "I", Cond.methodLink RL 58 yL_alloc, Cond.static yL_alloc, Cond.codeWith yL_alloc cL_alloc 5 (some .int) [(0, 17, 20, 13)], Cond.classLink RL 13 "java/lang/IllegalArgumentException", Cond.methodLink RL 7 yX2_alloc, Cond.instanceMethod yX2_alloc, Cond.selects RX2 yX2_alloc yX2_alloc, Cond.code yX2_alloc cX2_alloc 3 (some .boolean), Cond.classLink RX2 47 "java/lang/IllegalArgumentException", Cond.initialized "java/lang/IllegalArgumentException", Cond.fieldLink RX2 50 "ReplicaHeap" "unitsOfCall" "I", Cond.fieldLink RX2 68 "ReplicaHeap" "made" "I", Cond.fieldLink RX2 71 "ReplicaHeap" "running" "Z", Cond.methodLink RX2 43 yX2_isRoot]
def wsL_law0_r4 : List Cond := [Cond.static yX2_isRoot, Cond.code yX2_isRoot cX2_isRoot 1 (some .boolean), Cond.methodLink RX2 53 yX2_makeRoom, Cond.instanceMethod yX2_makeRoom, Cond.selects RX2 yX2_makeRoom yX2_makeRoom, Cond.code yX2_makeRoom cX2_makeRoom 2 none, Cond.fieldLink RX2 126 "ReplicaHeap" "pauses" "I", Cond.constant RX2 101 (1000000), Cond.instanceMethod yX1_hasRoom, Cond.selects RX1 yX1_hasRoom yX1_hasRoom, Cond.code yX1_hasRoom cX1_hasRoom 2 (some .boolean), Cond.fieldLink RX1 25 "ReplicaHeap$Space" "used" "I", Cond.methodLink RX2 75 yX2_work, Cond.instanceMethod yX2_work, Cond.selects RX2 yX2_work yX2_work, Cond.code yX2_work cX2_work 4 none, Cond.fieldLink RX2 129 "ReplicaHeap" "unitsSoFar" "I", Cond.fieldLink RX2 132 "ReplicaHeap" "mostUnits" "I", Cond.methodLink RX2 146 Lib.Math.max.name, Cond.static Lib.Math.max.name, Cond.initialized "java/lang/Math", Cond.code Lib.Math.max.name Lib.Math.max.code 2 (some .int), Cond.methodLink RX2 142 yX2_step, Cond.instanceMethod yX2_step]
def wsL_law0_r5 : List Cond := [Cond.selects RX2 yX2_step yX2_step, Cond.code yX2_step cX2_step 2 (some .int), Cond.fieldLink RX2 117 "ReplicaHeap" "scan" "I", Cond.methodLink RX2 152 yX2_takeEntry, Cond.instanceMethod yX2_takeEntry, Cond.selects RX2 yX2_takeEntry yX2_takeEntry, Cond.code yX2_takeEntry cX2_takeEntry 4 (some .int), Cond.instanceMethod yX1_setCell, Cond.selects RX1 yX1_setCell yX1_setCell, Cond.code yX1_setCell cX1_setCell 4 none, Cond.methodLink RX2 155 yX2_forward, Cond.instanceMethod yX2_forward, Cond.selects RX2 yX2_forward yX2_forward, Cond.code yX2_forward cX2_forward 4 (some .int), Cond.methodLink RX2 161 yX2_replicate, Cond.instanceMethod yX2_replicate, Cond.selects RX2 yX2_replicate yX2_replicate, Cond.code yX2_replicate cX2_replicate 5 (some .int), Cond.methodLink RX2 158 yX2_rootWithoutReplica, Cond.instanceMethod yX2_rootWithoutReplica, Cond.selects RX2 yX2_rootWithoutReplica yX2_rootWithoutReplica, Cond.code yX2_rootWithoutReplica cX2_rootWithoutReplica 2 (some .int), Cond.methodLink RX2 164 yX2_flip, Cond.instanceMethod yX2_flip]
def wsL_law0_r6 : List Cond := [Cond.selects RX2 yX2_flip yX2_flip, Cond.code yX2_flip cX2_flip 2 none, Cond.fieldLink RX2 123 "ReplicaHeap" "flips" "I", Cond.instanceMethod yX0_clear, Cond.selects RX0 yX0_clear yX0_clear, Cond.code yX0_clear cX0_clear 1 none, Cond.fieldLink RX0 18 "ReplicaHeap$Log" "size" "I", Cond.fieldLink RX0 25 "ReplicaHeap$Log" "taken" "I", Cond.instanceMethod yX1_layObject, Cond.selects RX1 yX1_layObject yX1_layObject, Cond.code yX1_layObject cX1_layObject 4 (some .int), Cond.methodLink RX1 28 yX1_setCell, Cond.methodLink RX2 64 yX2_setRoot, Cond.instanceMethod yX2_setRoot, Cond.selects RX2 yX2_setRoot yX2_setRoot, Cond.code yX2_setRoot cX2_setRoot 4 none, Cond.methodLink RL 61 yX3_alloc, Cond.instanceMethod yX3_alloc, Cond.selects RX3 yX3_alloc yX3_alloc, Cond.code yX3_alloc cX3_alloc 6 (some .boolean), Cond.fieldLink RX3 42 "ReplicaHeapModel" "thrown" "I", Cond.fieldLink RX3 69 "ReplicaHeapModel" "running" "Z", Cond.fieldLink RX3 45 "ReplicaHeapModel" "now" "I", Cond.fieldLink RX3 124 "ReplicaHeapModel" "made" "I"]
def wsL_law0_r7 : List Cond := [Cond.methodLink RX3 112 yX3_isRoot, Cond.static yX3_isRoot, Cond.code yX3_isRoot cX3_isRoot 1 (some .boolean), Cond.methodLink RX3 116 yX3_open, Cond.instanceMethod yX3_open, Cond.selects RX3 yX3_open yX3_open, Cond.code yX3_open cX3_open 1 none, Cond.fieldLink RX3 91 "ReplicaHeapModel" "units" "I", Cond.fieldLink RX3 97 "ReplicaHeapModel" "before" "I", Cond.methodLink RX3 119 yX3_has, Cond.instanceMethod yX3_has, Cond.selects RX3 yX3_has yX3_has, Cond.code yX3_has cX3_has 2 (some .boolean), Cond.methodLink RX3 121 yX3_pause, Cond.instanceMethod yX3_pause, Cond.selects RX3 yX3_pause yX3_pause, Cond.code yX3_pause cX3_pause 2 none, Cond.fieldLink RX3 103 "ReplicaHeapModel" "pauses" "I", Cond.methodLink RX3 106 yX3_begin, Cond.instanceMethod yX3_begin, Cond.selects RX3 yX3_begin yX3_begin, Cond.code yX3_begin cX3_begin 1 none, Cond.fieldLink RX3 66 "ReplicaHeapModel" "scan" "I", Cond.fieldLink RX3 73 "ReplicaHeapModel" "logged" "I"]
def wsL_law0_r8 : List Cond := [Cond.fieldLink RX3 60 "ReplicaHeapModel" "taken" "I", Cond.methodLink RX3 52 yX3_other, Cond.instanceMethod yX3_other, Cond.selects RX3 yX3_other yX3_other, Cond.code yX3_other cX3_other 1 (some .int), Cond.methodLink RX3 109 yX3_work, Cond.instanceMethod yX3_work, Cond.selects RX3 yX3_work yX3_work, Cond.code yX3_work cX3_work 3 (some .int), Cond.methodLink RX3 94 yX3_step, Cond.instanceMethod yX3_step, Cond.selects RX3 yX3_step yX3_step, Cond.code yX3_step cX3_step 2 (some .int), Cond.methodLink RX3 79 yX3_take, Cond.instanceMethod yX3_take, Cond.selects RX3 yX3_take yX3_take, Cond.code yX3_take cX3_take 5 (some .int), Cond.methodLink RX3 48 yX3_at, Cond.static yX3_at, Cond.code yX3_at cX3_at 2 (some .int), Cond.methodLink RX3 63 yX3_refer, Cond.instanceMethod yX3_refer, Cond.selects RX3 yX3_refer yX3_refer, Cond.code yX3_refer cX3_refer 4 (some .int)]
def wsL_law0_r9 : List Cond := [Cond.methodLink RX3 56 yX3_replicate, Cond.instanceMethod yX3_replicate, Cond.selects RX3 yX3_replicate yX3_replicate, Cond.code yX3_replicate cX3_replicate 6 (some .int), Cond.methodLink RX3 82 yX3_look, Cond.instanceMethod yX3_look, Cond.selects RX3 yX3_look yX3_look, Cond.code yX3_look cX3_look 2 (some .int), Cond.methodLink RX3 85 yX3_nextRoot, Cond.instanceMethod yX3_nextRoot, Cond.selects RX3 yX3_nextRoot yX3_nextRoot, Cond.code yX3_nextRoot cX3_nextRoot 2 (some .int), Cond.methodLink RX3 88 yX3_flip, Cond.instanceMethod yX3_flip, Cond.selects RX3 yX3_flip yX3_flip, Cond.code yX3_flip cX3_flip 2 (some .int), Cond.fieldLink RX3 76 "ReplicaHeapModel" "flips" "I", Cond.methodLink RX3 127 yX3_close, Cond.instanceMethod yX3_close, Cond.selects RX3 yX3_close yX3_close, Cond.code yX3_close cX3_close 1 none, Cond.fieldLink RX3 100 "ReplicaHeapModel" "most" "I", Cond.methodLink RL 62 yX3_thrown, Cond.instanceMethod yX3_thrown]
def wsL_law0_r10 : List Cond := [Cond.selects RX3 yX3_thrown yX3_thrown, Cond.code yX3_thrown cX3_thrown 1 (some .int), Cond.methodLink RL 66 yL_put, Cond.static yL_put, Cond.codeWith yL_put cL_put 5 (some .int) [(0, 7, 10, 13), (0, 7, 14, 19)], Cond.classLink RL 19 "java/lang/IllegalStateException", Cond.methodLink RL 15 yX2_put, Cond.instanceMethod yX2_put, Cond.selects RX2 yX2_put yX2_put, Cond.code yX2_put cX2_put 5 none, Cond.classLink RX2 85 "java/lang/IllegalStateException", Cond.initialized "java/lang/IllegalStateException", Cond.methodLink RX2 81 yX2_hasField, Cond.instanceMethod yX2_hasField, Cond.selects RX2 yX2_hasField yX2_hasField, Cond.code yX2_hasField cX2_hasField 3 (some .boolean), Cond.methodLink RX2 91 yX2_change, Cond.instanceMethod yX2_change, Cond.selects RX2 yX2_change yX2_change, Cond.code yX2_change cX2_change 5 none, Cond.instanceMethod yX0_add, Cond.selects RX0 yX0_add yX0_add, Cond.code yX0_add cX0_add 3 none, Cond.methodLink RX0 22 yX0_clear]
def wsL_law0_r11 : List Cond := [Cond.methodLink RL 69 yX3_put, Cond.instanceMethod yX3_put, Cond.selects RX3 yX3_put yX3_put, Cond.code yX3_put cX3_put 4 none, Cond.methodLink RX3 130 yX3_hasField, Cond.instanceMethod yX3_hasField, Cond.selects RX3 yX3_hasField yX3_hasField, Cond.code yX3_hasField cX3_hasField 3 (some .boolean), Cond.methodLink RX3 134 yX3_change, Cond.instanceMethod yX3_change, Cond.selects RX3 yX3_change yX3_change, Cond.code yX3_change cX3_change 7 none, Cond.methodLink RL 70 yL_putNumber, Cond.static yL_putNumber, Cond.codeWith yL_putNumber cL_putNumber 5 (some .int) [(0, 7, 10, 13), (0, 7, 14, 19)], Cond.methodLink RL 21 yX2_putNumber, Cond.instanceMethod yX2_putNumber, Cond.selects RX2 yX2_putNumber yX2_putNumber, Cond.code yX2_putNumber cX2_putNumber 4 none, Cond.methodLink RL 72 yX3_putNumber, Cond.instanceMethod yX3_putNumber, Cond.selects RX3 yX3_putNumber yX3_putNumber, Cond.code yX3_putNumber cX3_putNumber 4 none, Cond.methodLink RL 73 yL_get]
def wsL_law0_r12 : List Cond := [Cond.static yL_get, Cond.codeWith yL_get cL_get 5 (some .int) [(0, 7, 10, 13), (0, 7, 14, 19)], Cond.methodLink RL 24 yX2_get, Cond.instanceMethod yX2_get, Cond.selects RX2 yX2_get yX2_get, Cond.code yX2_get cX2_get 5 none, Cond.methodLink RL 75 yX3_get, Cond.instanceMethod yX3_get, Cond.selects RX3 yX3_get yX3_get, Cond.code yX3_get cX3_get 5 none, Cond.methodLink RL 76 yX2_move, Cond.instanceMethod yX2_move, Cond.selects RX2 yX2_move yX2_move, Cond.code yX2_move cX2_move 3 (some .boolean), Cond.methodLink RL 79 yX3_move, Cond.instanceMethod yX3_move, Cond.selects RX3 yX3_move yX3_move, Cond.code yX3_move cX3_move 3 (some .boolean), Cond.methodLink RL 80 yX2_number, Cond.instanceMethod yX2_number, Cond.selects RX2 yX2_number yX2_number, Cond.code yX2_number cX2_number 3 (some .boolean), Cond.methodLink RL 83 yX3_number, Cond.instanceMethod yX3_number]
def wsL_law0_r13 : List Cond := [Cond.selects RX3 yX3_number yX3_number, Cond.code yX3_number cX3_number 3 (some .boolean), Cond.methodLink RL 84 yL_collect, Cond.static yL_collect, Cond.codeWith yL_collect cL_collect 4 (some .int) [(0, 9, 12, 13)], Cond.methodLink RL 27 yX2_collect, Cond.instanceMethod yX2_collect, Cond.selects RX2 yX2_collect yX2_collect, Cond.code yX2_collect cX2_collect 2 (some .int), Cond.methodLink RL 87 yX3_collect, Cond.instanceMethod yX3_collect, Cond.selects RX3 yX3_collect yX3_collect, Cond.code yX3_collect cX3_collect 3 (some .int), Cond.methodLink RL 88 yL_look, Cond.static yL_look, Cond.codeWith yL_look cL_look 5 (some .int) [(0, 10, 13, 35)], Cond.classLink RL 35 "java/lang/IndexOutOfBoundsException", Cond.methodLink RL 31 yX2_look, Cond.instanceMethod yX2_look, Cond.selects RX2 yX2_look yX2_look, Cond.code yX2_look cX2_look 5 (some .int), Cond.classLink RX2 102 "java/lang/IndexOutOfBoundsException", Cond.initialized "java/lang/IndexOutOfBoundsException", Cond.methodLink RL 90 yX3_look_]
def wsL_law0_r14 : List Cond := [Cond.instanceMethod yX3_look_, Cond.selects RX3 yX3_look_ yX3_look_, Cond.code yX3_look_ cX3_look_ 4 (some .int), Cond.methodLink RL 91 yL_field, Cond.static yL_field, Cond.codeWith yL_field cL_field 6 (some .int) [(0, 12, 15, 35)], Cond.methodLink RL 37 yX2_field, Cond.instanceMethod yX2_field, Cond.selects RX2 yX2_field yX2_field, Cond.code yX2_field cX2_field 5 (some .int), Cond.methodLink RL 94 yX3_field, Cond.instanceMethod yX3_field, Cond.selects RX3 yX3_field yX3_field, Cond.code yX3_field cX3_field 5 (some .int), Cond.methodLink RL 95 yL_cell_, Cond.static yL_cell_, Cond.codeWith yL_cell_ cL_cell_ 6 (some .int) [(0, 12, 15, 35)], Cond.methodLink RL 41 yX2_cell, Cond.instanceMethod yX2_cell, Cond.selects RX2 yX2_cell yX2_cell, Cond.code yX2_cell cX2_cell 5 (some .int), Cond.methodLink RL 97 yX3_cell, Cond.instanceMethod yX3_cell, Cond.selects RX3 yX3_cell yX3_cell]
def wsL_law0_r15 : List Cond := [Cond.code yX3_cell cX3_cell 6 (some .int), Cond.methodLink RL 98 yL_entry, Cond.static yL_entry, Cond.codeWith yL_entry cL_entry 5 (some .int) [(0, 10, 13, 35)], Cond.methodLink RL 44 yX2_entry, Cond.instanceMethod yX2_entry, Cond.selects RX2 yX2_entry yX2_entry, Cond.code yX2_entry cX2_entry 3 (some .int), Cond.methodLink RL 100 yX3_entry, Cond.instanceMethod yX3_entry, Cond.selects RX3 yX3_entry yX3_entry, Cond.code yX3_entry cX3_entry 3 (some .int), Cond.methodLink RL 101 yX2_count, Cond.instanceMethod yX2_count, Cond.selects RX2 yX2_count yX2_count, Cond.code yX2_count cX2_count 2 (some .int), Cond.methodLink RL 104 yX3_count, Cond.instanceMethod yX3_count, Cond.selects RX3 yX3_count yX3_count, Cond.code yX3_count cX3_count 2 (some .int)]
def wsL_law0 : List Cond := (wsL_law0_r1 ++ (wsL_law0_r2 ++ (wsL_law0_r3 ++ (wsL_law0_r4 ++ (wsL_law0_r5 ++ (wsL_law0_r6 ++ (wsL_law0_r7 ++ (wsL_law0_r8 ++ (wsL_law0_r9 ++ (wsL_law0_r10 ++ (wsL_law0_r11 ++ (wsL_law0_r12 ++ (wsL_law0_r13 ++ (wsL_law0_r14 ++ wsL_law0_r15)))))))))))))) ++ wsX20 ++ wsX30 ++ wsX00 ++ wsX10 ++ ([] : List Cond)
def wsL_law : List Cond := wsL_law0 ++ (vx_at0 RX2 49 "java/lang/IllegalArgumentException" ["java/lang/RuntimeException", "java/lang/Exception"]).filter goodWord ++ (vx_at0 RX2 87 "java/lang/IllegalStateException" ["java/lang/RuntimeException", "java/lang/Exception"]).filter goodWord ++ (vx_at0 RX2 104 "java/lang/IndexOutOfBoundsException" ["java/lang/RuntimeException", "java/lang/Exception"]).filter goodWord
abbrev vwCl : List vw_C := [(RX0, TX0, 4), (RX1, TX1, 5), (RX2, TX2, 15), (RX3, TX3, 22)]
end
section
theorem dX0_init_0 : decode cX0_init 0 = .ok (.aload_n 0, 1) := by decide +kernel
theorem dX0_init_1 : decode cX0_init 1 = .ok (.invokespecial 3, 3) := by decide +kernel
theorem dX0_init_4 : decode cX0_init 4 = .ok (.aload_n 0, 1) := by decide +kernel
theorem dX0_init_5 : decode cX0_init 5 = .ok (.sipush 512, 3) := by decide +kernel
theorem dX0_init_8 : decode cX0_init 8 = .ok (.newarray .int, 2) := by decide +kernel
theorem dX0_init_10 : decode cX0_init 10 = .ok (.putfield 9, 3) := by decide +kernel
theorem dX0_init_13 : decode cX0_init 13 = .ok (.aload_n 0, 1) := by decide +kernel
theorem dX0_init_14 : decode cX0_init 14 = .ok (.sipush 512, 3) := by decide +kernel
theorem dX0_init_17 : decode cX0_init 17 = .ok (.newarray .int, 2) := by decide +kernel
theorem dX0_init_19 : decode cX0_init 19 = .ok (.putfield 15, 3) := by decide +kernel
theorem dX0_init_22 : decode cX0_init 22 = .ok (.return_, 1) := by decide +kernel
set_option maxRecDepth 20000 in
theorem ggX0_add_X0_clear : GoodIn wsX0_add wsX0_clear := goodIn_r _ [8, 1, 9, 10, 11, 12, 13] (by decide +kernel) (by decide +kernel)
set_option maxRecDepth 20000 in
theorem gX0_add_X0_clear : GoodIn wsX0_add (wsV RX0 22 RX0 yX0_clear wsX0_clear) := goodIn_app (goodIn_of _ (by decide +kernel)) ggX0_add_X0_clear
theorem dX0_add_0 : decode cX0_add 0 = .ok (.aload_n 0, 1) := by decide +kernel
theorem dX0_add_1 : decode cX0_add 1 = .ok (.getfield 18, 3) := by decide +kernel
theorem dX0_add_4 : decode cX0_add 4 = .ok (.sipush 512, 3) := by decide +kernel
theorem dX0_add_7 : decode cX0_add 7 = .ok (.if_icmp .lt 7, 3) := by decide +kernel
theorem dX0_add_10 : decode cX0_add 10 = .ok (.aload_n 0, 1) := by decide +kernel
theorem dX0_add_11 : decode cX0_add 11 = .ok (.invokevirtual 22, 3) := by decide +kernel
theorem dX0_add_14 : decode cX0_add 14 = .ok (.aload_n 0, 1) := by decide +kernel
theorem dX0_add_15 : decode cX0_add 15 = .ok (.getfield 9, 3) := by decide +kernel
theorem dX0_add_18 : decode cX0_add 18 = .ok (.aload_n 0, 1) := by decide +kernel
theorem dX0_add_19 : decode cX0_add 19 = .ok (.getfield 18, 3) := by decide +kernel
theorem dX0_add_22 : decode cX0_add 22 = .ok (.iload_n 1, 1) := by decide +kernel
theorem dX0_add_23 : decode cX0_add 23 = .ok (.iastore, 1) := by decide +kernel
theorem dX0_add_24 : decode cX0_add 24 = .ok (.aload_n 0, 1) := by decide +kernel
theorem dX0_add_25 : decode cX0_add 25 = .ok (.getfield 15, 3) := by decide +kernel
theorem dX0_add_28 : decode cX0_add 28 = .ok (.aload_n 0, 1) := by decide +kernel
theorem dX0_add_29 : decode cX0_add 29 = .ok (.getfield 18, 3) := by decide +kernel
theorem dX0_add_32 : decode cX0_add 32 = .ok (.iload_n 2, 1) := by decide +kernel
theorem dX0_add_33 : decode cX0_add 33 = .ok (.iastore, 1) := by decide +kernel
theorem dX0_add_34 : decode cX0_add 34 = .ok (.aload_n 0, 1) := by decide +kernel
theorem dX0_add_35 : decode cX0_add 35 = .ok (.dup, 1) := by decide +kernel
theorem dX0_add_36 : decode cX0_add 36 = .ok (.getfield 18, 3) := by decide +kernel
theorem dX0_add_39 : decode cX0_add 39 = .ok (.iconst 1, 1) := by decide +kernel
theorem dX0_add_40 : decode cX0_add 40 = .ok (.iadd, 1) := by decide +kernel
theorem dX0_add_41 : decode cX0_add 41 = .ok (.putfield 18, 3) := by decide +kernel
theorem dX0_add_44 : decode cX0_add 44 = .ok (.return_, 1) := by decide +kernel
theorem dX0_clear_0 : decode cX0_clear 0 = .ok (.aload_n 0, 1) := by decide +kernel
theorem dX0_clear_1 : decode cX0_clear 1 = .ok (.iconst 0, 1) := by decide +kernel
theorem dX0_clear_2 : decode cX0_clear 2 = .ok (.putfield 18, 3) := by decide +kernel
theorem dX0_clear_5 : decode cX0_clear 5 = .ok (.aload_n 0, 1) := by decide +kernel
theorem dX0_clear_6 : decode cX0_clear 6 = .ok (.iconst 0, 1) := by decide +kernel
theorem dX0_clear_7 : decode cX0_clear 7 = .ok (.putfield 25, 3) := by decide +kernel
theorem dX0_clear_10 : decode cX0_clear 10 = .ok (.return_, 1) := by decide +kernel
theorem dX1_init_0 : decode cX1_init 0 = .ok (.aload_n 0, 1) := by decide +kernel
theorem dX1_init_1 : decode cX1_init 1 = .ok (.invokespecial 3, 3) := by decide +kernel
theorem dX1_init_4 : decode cX1_init 4 = .ok (.aload_n 0, 1) := by decide +kernel
theorem dX1_init_5 : decode cX1_init 5 = .ok (.iload_n 1, 1) := by decide +kernel
theorem dX1_init_6 : decode cX1_init 6 = .ok (.putfield 9, 3) := by decide +kernel
theorem dX1_init_9 : decode cX1_init 9 = .ok (.aload_n 0, 1) := by decide +kernel
theorem dX1_init_10 : decode cX1_init 10 = .ok (.iload_n 2, 1) := by decide +kernel
theorem dX1_init_11 : decode cX1_init 11 = .ok (.newarray .int, 2) := by decide +kernel
theorem dX1_init_13 : decode cX1_init 13 = .ok (.putfield 15, 3) := by decide +kernel
theorem dX1_init_16 : decode cX1_init 16 = .ok (.aload_n 0, 1) := by decide +kernel
theorem dX1_init_17 : decode cX1_init 17 = .ok (.iload_n 2, 1) := by decide +kernel
theorem dX1_init_18 : decode cX1_init 18 = .ok (.newarray .int, 2) := by decide +kernel
theorem dX1_init_20 : decode cX1_init 20 = .ok (.putfield 19, 3) := by decide +kernel
theorem dX1_init_23 : decode cX1_init 23 = .ok (.aload_n 0, 1) := by decide +kernel
theorem dX1_init_24 : decode cX1_init 24 = .ok (.iload_n 2, 1) := by decide +kernel
theorem dX1_init_25 : decode cX1_init 25 = .ok (.newarray .int, 2) := by decide +kernel
theorem dX1_init_27 : decode cX1_init 27 = .ok (.putfield 22, 3) := by decide +kernel
theorem dX1_init_30 : decode cX1_init 30 = .ok (.return_, 1) := by decide +kernel
theorem dX1_hasRoom_0 : decode cX1_hasRoom 0 = .ok (.aload_n 0, 1) := by decide +kernel
theorem dX1_hasRoom_1 : decode cX1_hasRoom 1 = .ok (.getfield 25, 3) := by decide +kernel
theorem dX1_hasRoom_4 : decode cX1_hasRoom 4 = .ok (.iload_n 1, 1) := by decide +kernel
theorem dX1_hasRoom_5 : decode cX1_hasRoom 5 = .ok (.iadd, 1) := by decide +kernel
theorem dX1_hasRoom_6 : decode cX1_hasRoom 6 = .ok (.iconst 1, 1) := by decide +kernel
theorem dX1_hasRoom_7 : decode cX1_hasRoom 7 = .ok (.iadd, 1) := by decide +kernel
theorem dX1_hasRoom_8 : decode cX1_hasRoom 8 = .ok (.aload_n 0, 1) := by decide +kernel
theorem dX1_hasRoom_9 : decode cX1_hasRoom 9 = .ok (.getfield 15, 3) := by decide +kernel
theorem dX1_hasRoom_12 : decode cX1_hasRoom 12 = .ok (.arraylength, 1) := by decide +kernel
theorem dX1_hasRoom_13 : decode cX1_hasRoom 13 = .ok (.if_icmp .gt 7, 3) := by decide +kernel
theorem dX1_hasRoom_16 : decode cX1_hasRoom 16 = .ok (.iconst 1, 1) := by decide +kernel
theorem dX1_hasRoom_17 : decode cX1_hasRoom 17 = .ok (.goto 4, 3) := by decide +kernel
theorem dX1_hasRoom_20 : decode cX1_hasRoom 20 = .ok (.iconst 0, 1) := by decide +kernel
theorem dX1_hasRoom_21 : decode cX1_hasRoom 21 = .ok (.ireturn, 1) := by decide +kernel
set_option maxRecDepth 20000 in
theorem ggX1_layObject_X1_setCell : GoodIn wsX1_layObject wsX1_setCell := goodIn_r _ [7, 8, 9, 10, 11, 12, 13, 14] (by decide +kernel) (by decide +kernel)
set_option maxRecDepth 20000 in
theorem gX1_layObject_X1_setCell : GoodIn wsX1_layObject (wsV RX1 28 RX1 yX1_setCell wsX1_setCell) := goodIn_app (goodIn_of _ (by decide +kernel)) ggX1_layObject_X1_setCell
theorem dX1_layObject_0 : decode cX1_layObject 0 = .ok (.aload_n 0, 1) := by decide +kernel
theorem dX1_layObject_1 : decode cX1_layObject 1 = .ok (.getfield 25, 3) := by decide +kernel
theorem dX1_layObject_4 : decode cX1_layObject 4 = .ok (.istore_n 2, 1) := by decide +kernel
theorem dX1_layObject_5 : decode cX1_layObject 5 = .ok (.aload_n 0, 1) := by decide +kernel
theorem dX1_layObject_6 : decode cX1_layObject 6 = .ok (.iload_n 2, 1) := by decide +kernel
theorem dX1_layObject_7 : decode cX1_layObject 7 = .ok (.iconst 3, 1) := by decide +kernel
theorem dX1_layObject_8 : decode cX1_layObject 8 = .ok (.iload_n 1, 1) := by decide +kernel
theorem dX1_layObject_9 : decode cX1_layObject 9 = .ok (.invokevirtual 28, 3) := by decide +kernel
theorem dX1_layObject_12 : decode cX1_layObject 12 = .ok (.aload_n 0, 1) := by decide +kernel
theorem dX1_layObject_13 : decode cX1_layObject 13 = .ok (.getfield 22, 3) := by decide +kernel
theorem dX1_layObject_16 : decode cX1_layObject 16 = .ok (.iload_n 2, 1) := by decide +kernel
theorem dX1_layObject_17 : decode cX1_layObject 17 = .ok (.iconst (-1), 1) := by decide +kernel
theorem dX1_layObject_18 : decode cX1_layObject 18 = .ok (.iastore, 1) := by decide +kernel
theorem dX1_layObject_19 : decode cX1_layObject 19 = .ok (.iconst 1, 1) := by decide +kernel
theorem dX1_layObject_20 : decode cX1_layObject 20 = .ok (.istore_n 3, 1) := by decide +kernel
theorem dX1_layObject_21 : decode cX1_layObject 21 = .ok (.iload_n 3, 1) := by decide +kernel
theorem dX1_layObject_22 : decode cX1_layObject 22 = .ok (.iload_n 1, 1) := by decide +kernel
theorem dX1_layObject_23 : decode cX1_layObject 23 = .ok (.if_icmp .gt 18, 3) := by decide +kernel
theorem dX1_layObject_26 : decode cX1_layObject 26 = .ok (.aload_n 0, 1) := by decide +kernel
theorem dX1_layObject_27 : decode cX1_layObject 27 = .ok (.iload_n 2, 1) := by decide +kernel
theorem dX1_layObject_28 : decode cX1_layObject 28 = .ok (.iload_n 3, 1) := by decide +kernel
theorem dX1_layObject_29 : decode cX1_layObject 29 = .ok (.iadd, 1) := by decide +kernel
theorem dX1_layObject_30 : decode cX1_layObject 30 = .ok (.iconst 0, 1) := by decide +kernel
theorem dX1_layObject_31 : decode cX1_layObject 31 = .ok (.iconst 0, 1) := by decide +kernel
theorem dX1_layObject_32 : decode cX1_layObject 32 = .ok (.invokevirtual 28, 3) := by decide +kernel
theorem dX1_layObject_35 : decode cX1_layObject 35 = .ok (.iinc 3 1, 3) := by decide +kernel
theorem dX1_layObject_38 : decode cX1_layObject 38 = .ok (.goto (-17), 3) := by decide +kernel
theorem dX1_layObject_41 : decode cX1_layObject 41 = .ok (.aload_n 0, 1) := by decide +kernel
theorem dX1_layObject_42 : decode cX1_layObject 42 = .ok (.dup, 1) := by decide +kernel
theorem dX1_layObject_43 : decode cX1_layObject 43 = .ok (.getfield 25, 3) := by decide +kernel
theorem dX1_layObject_46 : decode cX1_layObject 46 = .ok (.iload_n 1, 1) := by decide +kernel
theorem dX1_layObject_47 : decode cX1_layObject 47 = .ok (.iconst 1, 1) := by decide +kernel
theorem dX1_layObject_48 : decode cX1_layObject 48 = .ok (.iadd, 1) := by decide +kernel
theorem dX1_layObject_49 : decode cX1_layObject 49 = .ok (.iadd, 1) := by decide +kernel
theorem dX1_layObject_50 : decode cX1_layObject 50 = .ok (.putfield 25, 3) := by decide +kernel
theorem dX1_layObject_53 : decode cX1_layObject 53 = .ok (.iload_n 2, 1) := by decide +kernel
theorem dX1_layObject_54 : decode cX1_layObject 54 = .ok (.ireturn, 1) := by decide +kernel
theorem dX1_setCell_0 : decode cX1_setCell 0 = .ok (.aload_n 0, 1) := by decide +kernel
theorem dX1_setCell_1 : decode cX1_setCell 1 = .ok (.getfield 15, 3) := by decide +kernel
theorem dX1_setCell_4 : decode cX1_setCell 4 = .ok (.iload_n 1, 1) := by decide +kernel
theorem dX1_setCell_5 : decode cX1_setCell 5 = .ok (.iload_n 2, 1) := by decide +kernel
theorem dX1_setCell_6 : decode cX1_setCell 6 = .ok (.iastore, 1) := by decide +kernel
theorem dX1_setCell_7 : decode cX1_setCell 7 = .ok (.aload_n 0, 1) := by decide +kernel
theorem dX1_setCell_8 : decode cX1_setCell 8 = .ok (.getfield 19, 3) := by decide +kernel
theorem dX1_setCell_11 : decode cX1_setCell 11 = .ok (.iload_n 1, 1) := by decide +kernel
theorem dX1_setCell_12 : decode cX1_setCell 12 = .ok (.iload_n 3, 1) := by decide +kernel
theorem dX1_setCell_13 : decode cX1_setCell 13 = .ok (.iastore, 1) := by decide +kernel
theorem dX1_setCell_14 : decode cX1_setCell 14 = .ok (.return_, 1) := by decide +kernel
set_option maxRecDepth 20000 in
theorem ggX2_init_X0_init : GoodIn wsX2_init wsX0_init := goodIn_r _ [20, 21, 2, 3, 6, 22, 23, 46, 47, 48, 49] (by decide +kernel) (by decide +kernel)
set_option maxRecDepth 20000 in
theorem gX2_init_X0_init_n19 : GoodIn wsX2_init (wsX0_init) := ggX2_init_X0_init
set_option maxRecDepth 20000 in
theorem ggX2_init_X1_init : GoodIn wsX2_init wsX1_init := goodIn_r _ [25, 26, 2, 3, 27, 6, 28, 29, 30, 50, 51, 52, 53, 54] (by decide +kernel) (by decide +kernel)
set_option maxRecDepth 20000 in
theorem gX2_init_X1_init_n33 : GoodIn wsX2_init (wsX1_init) := ggX2_init_X1_init
theorem dX2_init_0 : decode cX2_init 0 = .ok (.aload_n 0, 1) := by decide +kernel
theorem dX2_init_1 : decode cX2_init 1 = .ok (.invokespecial 1, 3) := by decide +kernel
theorem dX2_init_4 : decode cX2_init 4 = .ok (.aload_n 0, 1) := by decide +kernel
theorem dX2_init_5 : decode cX2_init 5 = .ok (.bipush 16, 2) := by decide +kernel
theorem dX2_init_7 : decode cX2_init 7 = .ok (.newarray .boolean, 2) := by decide +kernel
theorem dX2_init_9 : decode cX2_init 9 = .ok (.putfield 9, 3) := by decide +kernel
theorem dX2_init_12 : decode cX2_init 12 = .ok (.aload_n 0, 1) := by decide +kernel
theorem dX2_init_13 : decode cX2_init 13 = .ok (.bipush 16, 2) := by decide +kernel
theorem dX2_init_15 : decode cX2_init 15 = .ok (.newarray .int, 2) := by decide +kernel
theorem dX2_init_17 : decode cX2_init 17 = .ok (.putfield 13, 3) := by decide +kernel
theorem dX2_init_20 : decode cX2_init 20 = .ok (.aload_n 0, 1) := by decide +kernel
theorem dX2_init_21 : decode cX2_init 21 = .ok (.new 17, 3) := by decide +kernel
theorem dX2_init_24 : decode cX2_init 24 = .ok (.dup, 1) := by decide +kernel
theorem dX2_init_25 : decode cX2_init 25 = .ok (.invokespecial 19, 3) := by decide +kernel
theorem dX2_init_28 : decode cX2_init 28 = .ok (.putfield 20, 3) := by decide +kernel
theorem dX2_init_31 : decode cX2_init 31 = .ok (.aload_n 0, 1) := by decide +kernel
theorem dX2_init_32 : decode cX2_init 32 = .ok (.iload_n 1, 1) := by decide +kernel
theorem dX2_init_33 : decode cX2_init 33 = .ok (.bipush 16, 2) := by decide +kernel
theorem dX2_init_35 : decode cX2_init 35 = .ok (.if_icmp .lt 14, 3) := by decide +kernel
theorem dX2_init_38 : decode cX2_init 38 = .ok (.iload_n 1, 1) := by decide +kernel
theorem dX2_init_39 : decode cX2_init 39 = .ok (.sipush 400, 3) := by decide +kernel
theorem dX2_init_42 : decode cX2_init 42 = .ok (.if_icmp .gt 7, 3) := by decide +kernel
theorem dX2_init_45 : decode cX2_init 45 = .ok (.iload_n 1, 1) := by decide +kernel
theorem dX2_init_46 : decode cX2_init 46 = .ok (.goto 5, 3) := by decide +kernel
theorem dX2_init_49 : decode cX2_init 49 = .ok (.bipush 64, 2) := by decide +kernel
theorem dX2_init_51 : decode cX2_init 51 = .ok (.putfield 24, 3) := by decide +kernel
theorem dX2_init_54 : decode cX2_init 54 = .ok (.aload_n 0, 1) := by decide +kernel
theorem dX2_init_55 : decode cX2_init 55 = .ok (.iload_n 2, 1) := by decide +kernel
theorem dX2_init_56 : decode cX2_init 56 = .ok (.iconst 1, 1) := by decide +kernel
theorem dX2_init_57 : decode cX2_init 57 = .ok (.if_icmp .lt 13, 3) := by decide +kernel
theorem dX2_init_60 : decode cX2_init 60 = .ok (.iload_n 2, 1) := by decide +kernel
theorem dX2_init_61 : decode cX2_init 61 = .ok (.bipush 64, 2) := by decide +kernel
theorem dX2_init_63 : decode cX2_init 63 = .ok (.if_icmp .gt 7, 3) := by decide +kernel
theorem dX2_init_66 : decode cX2_init 66 = .ok (.iload_n 2, 1) := by decide +kernel
theorem dX2_init_67 : decode cX2_init 67 = .ok (.goto 4, 3) := by decide +kernel
theorem dX2_init_70 : decode cX2_init 70 = .ok (.iconst 4, 1) := by decide +kernel
theorem dX2_init_71 : decode cX2_init 71 = .ok (.putfield 28, 3) := by decide +kernel
theorem dX2_init_74 : decode cX2_init 74 = .ok (.aload_n 0, 1) := by decide +kernel
theorem dX2_init_75 : decode cX2_init 75 = .ok (.new 31, 3) := by decide +kernel
theorem dX2_init_78 : decode cX2_init 78 = .ok (.dup, 1) := by decide +kernel
theorem dX2_init_79 : decode cX2_init 79 = .ok (.iconst 0, 1) := by decide +kernel
theorem dX2_init_80 : decode cX2_init 80 = .ok (.aload_n 0, 1) := by decide +kernel
theorem dX2_init_81 : decode cX2_init 81 = .ok (.getfield 24, 3) := by decide +kernel
theorem dX2_init_84 : decode cX2_init 84 = .ok (.invokespecial 33, 3) := by decide +kernel
theorem dX2_init_87 : decode cX2_init 87 = .ok (.putfield 36, 3) := by decide +kernel
theorem dX2_init_90 : decode cX2_init 90 = .ok (.aload_n 0, 1) := by decide +kernel
theorem dX2_init_91 : decode cX2_init 91 = .ok (.new 31, 3) := by decide +kernel
theorem dX2_init_94 : decode cX2_init 94 = .ok (.dup, 1) := by decide +kernel
theorem dX2_init_95 : decode cX2_init 95 = .ok (.iconst 1, 1) := by decide +kernel
theorem dX2_init_96 : decode cX2_init 96 = .ok (.aload_n 0, 1) := by decide +kernel
theorem dX2_init_97 : decode cX2_init 97 = .ok (.getfield 24, 3) := by decide +kernel
theorem dX2_init_100 : decode cX2_init 100 = .ok (.invokespecial 33, 3) := by decide +kernel
theorem dX2_init_103 : decode cX2_init 103 = .ok (.putfield 40, 3) := by decide +kernel
theorem dX2_init_106 : decode cX2_init 106 = .ok (.return_, 1) := by decide +kernel
set_option maxRecDepth 20000 in
theorem ggX2_alloc_X2_isRoot : GoodIn wsX2_alloc wsX2_isRoot := goodIn_r _ [12] (by decide +kernel) (by decide +kernel)
set_option maxRecDepth 20000 in
theorem gX2_alloc_X2_isRoot : GoodIn wsX2_alloc (va_wsS RX2 43 yX2_isRoot wsX2_isRoot) := goodIn_app (goodIn_of _ (by decide +kernel)) ggX2_alloc_X2_isRoot
set_option maxRecDepth 20000 in
theorem ggX2_alloc_X2_makeRoom : GoodIn wsX2_alloc wsX2_makeRoom := goodIn_r _ [16, 6, 4, 17, 18, 19, 20, 21, 22, 23, 24, 25, 26, 27, 11, 28, 29, 3, 30, 31, 32, 33, 34, 35, 36, 37, 38, 39, 40, 41, 42, 43, 44, 45, 46, 47, 48, 49, 50, 51, 52, 53, 54, 55, 56, 57, 58, 59, 60, 61, 62, 63, 64, 65, 66, 67, 68, 69, 70, 71, 72, 73, 74, 84, 85, 86, 87, 88, 89, 90, 91, 92, 93, 94, 95, 96, 97, 98, 99, 100, 101, 102, 103, 104, 105, 106, 107] (by decide +kernel) (by decide +kernel)
set_option maxRecDepth 20000 in
theorem gX2_alloc_X2_makeRoom : GoodIn wsX2_alloc (wsV RX2 53 RX2 yX2_makeRoom wsX2_makeRoom) := goodIn_app (goodIn_of _ (by decide +kernel)) ggX2_alloc_X2_makeRoom
set_option maxRecDepth 20000 in
theorem ggX2_alloc_X1_hasRoom : GoodIn wsX2_alloc wsX1_hasRoom := goodIn_r _ [22, 23, 24, 99, 100, 101, 102, 103] (by decide +kernel) (by decide +kernel)
set_option maxRecDepth 20000 in
theorem gX2_alloc_X1_hasRoom_n57 : GoodIn wsX2_alloc (wsX1_hasRoom) := ggX2_alloc_X1_hasRoom
set_option maxRecDepth 20000 in
theorem ggX2_alloc_X1_layObject : GoodIn wsX2_alloc wsX1_layObject := goodIn_r _ [77, 23, 78, 79, 47, 48, 20, 49, 24, 50, 99, 100, 101, 102, 103] (by decide +kernel) (by decide +kernel)
set_option maxRecDepth 20000 in
theorem gX2_alloc_X1_layObject_n60 : GoodIn wsX2_alloc (wsX1_layObject) := ggX2_alloc_X1_layObject
set_option maxRecDepth 20000 in
theorem ggX2_alloc_X2_setRoot : GoodIn wsX2_alloc wsX2_setRoot := goodIn_r _ [83, 63, 42, 84, 85, 86, 87, 88, 89, 90, 91, 92, 93, 94, 95, 96, 97, 98] (by decide +kernel) (by decide +kernel)
set_option maxRecDepth 20000 in
theorem gX2_alloc_X2_setRoot : GoodIn wsX2_alloc (wsV RX2 64 RX2 yX2_setRoot wsX2_setRoot) := goodIn_app (goodIn_of _ (by decide +kernel)) ggX2_alloc_X2_setRoot
set_option maxRecDepth 20000 in
theorem ggX2_alloc_X2_work : GoodIn wsX2_alloc wsX2_work := goodIn_r _ [28, 6, 18, 29, 3, 30, 31, 32, 33, 34, 35, 36, 37, 11, 38, 39, 40, 41, 42, 43, 44, 45, 46, 4, 47, 20, 48, 49, 24, 50, 51, 52, 53, 54, 55, 56, 57, 58, 59, 60, 61, 62, 63, 64, 65, 66, 67, 68, 69, 70, 71, 72, 73, 74, 84, 85, 86, 87, 88, 89, 90, 91, 92, 93, 94, 95, 96, 97, 98, 104, 105, 106, 107, 99, 100, 101, 102, 103] (by decide +kernel) (by decide +kernel)
set_option maxRecDepth 20000 in
theorem gX2_alloc_X2_work : GoodIn wsX2_alloc (wsV RX2 75 RX2 yX2_work wsX2_work) := goodIn_app (goodIn_of _ (by decide +kernel)) ggX2_alloc_X2_work
theorem dX2_alloc_0 : decode cX2_alloc 0 = .ok (.iload_n 1, 1) := by decide +kernel
theorem dX2_alloc_1 : decode cX2_alloc 1 = .ok (.invokestatic 43, 3) := by decide +kernel
theorem dX2_alloc_4 : decode cX2_alloc 4 = .ok (.ifCond .eq 14, 3) := by decide +kernel
theorem dX2_alloc_7 : decode cX2_alloc 7 = .ok (.iload_n 2, 1) := by decide +kernel
theorem dX2_alloc_8 : decode cX2_alloc 8 = .ok (.iconst 1, 1) := by decide +kernel
theorem dX2_alloc_9 : decode cX2_alloc 9 = .ok (.if_icmp .lt 9, 3) := by decide +kernel
theorem dX2_alloc_12 : decode cX2_alloc 12 = .ok (.iload_n 2, 1) := by decide +kernel
theorem dX2_alloc_13 : decode cX2_alloc 13 = .ok (.bipush 8, 2) := by decide +kernel
theorem dX2_alloc_15 : decode cX2_alloc 15 = .ok (.if_icmp .le 11, 3) := by decide +kernel
theorem dX2_alloc_18 : decode cX2_alloc 18 = .ok (.new 47, 3) := by decide +kernel
theorem dX2_alloc_21 : decode cX2_alloc 21 = .ok (.dup, 1) := by decide +kernel
theorem dX2_alloc_22 : decode cX2_alloc 22 = .ok (.invokespecial 49, 3) := by decide +kernel
theorem dX2_alloc_25 : decode cX2_alloc 25 = .ok (.athrow, 1) := by decide +kernel
theorem dX2_alloc_26 : decode cX2_alloc 26 = .ok (.aload_n 0, 1) := by decide +kernel
theorem dX2_alloc_27 : decode cX2_alloc 27 = .ok (.iconst 0, 1) := by decide +kernel
theorem dX2_alloc_28 : decode cX2_alloc 28 = .ok (.putfield 50, 3) := by decide +kernel
theorem dX2_alloc_31 : decode cX2_alloc 31 = .ok (.aload_n 0, 1) := by decide +kernel
theorem dX2_alloc_32 : decode cX2_alloc 32 = .ok (.iload_n 2, 1) := by decide +kernel
theorem dX2_alloc_33 : decode cX2_alloc 33 = .ok (.invokevirtual 53, 3) := by decide +kernel
theorem dX2_alloc_36 : decode cX2_alloc 36 = .ok (.aload_n 0, 1) := by decide +kernel
theorem dX2_alloc_37 : decode cX2_alloc 37 = .ok (.getfield 36, 3) := by decide +kernel
theorem dX2_alloc_40 : decode cX2_alloc 40 = .ok (.iload_n 2, 1) := by decide +kernel
theorem dX2_alloc_41 : decode cX2_alloc 41 = .ok (.invokevirtual 57, 3) := by decide +kernel
theorem dX2_alloc_44 : decode cX2_alloc 44 = .ok (.ifCond .ne 5, 3) := by decide +kernel
theorem dX2_alloc_47 : decode cX2_alloc 47 = .ok (.iconst 0, 1) := by decide +kernel
theorem dX2_alloc_48 : decode cX2_alloc 48 = .ok (.ireturn, 1) := by decide +kernel
theorem dX2_alloc_49 : decode cX2_alloc 49 = .ok (.aload_n 0, 1) := by decide +kernel
theorem dX2_alloc_50 : decode cX2_alloc 50 = .ok (.iload_n 1, 1) := by decide +kernel
theorem dX2_alloc_51 : decode cX2_alloc 51 = .ok (.iconst 1, 1) := by decide +kernel
theorem dX2_alloc_52 : decode cX2_alloc 52 = .ok (.aload_n 0, 1) := by decide +kernel
theorem dX2_alloc_53 : decode cX2_alloc 53 = .ok (.getfield 36, 3) := by decide +kernel
theorem dX2_alloc_56 : decode cX2_alloc 56 = .ok (.iload_n 2, 1) := by decide +kernel
theorem dX2_alloc_57 : decode cX2_alloc 57 = .ok (.invokevirtual 60, 3) := by decide +kernel
theorem dX2_alloc_60 : decode cX2_alloc 60 = .ok (.invokevirtual 64, 3) := by decide +kernel
theorem dX2_alloc_63 : decode cX2_alloc 63 = .ok (.aload_n 0, 1) := by decide +kernel
theorem dX2_alloc_64 : decode cX2_alloc 64 = .ok (.dup, 1) := by decide +kernel
theorem dX2_alloc_65 : decode cX2_alloc 65 = .ok (.getfield 68, 3) := by decide +kernel
theorem dX2_alloc_68 : decode cX2_alloc 68 = .ok (.iconst 1, 1) := by decide +kernel
theorem dX2_alloc_69 : decode cX2_alloc 69 = .ok (.iadd, 1) := by decide +kernel
theorem dX2_alloc_70 : decode cX2_alloc 70 = .ok (.putfield 68, 3) := by decide +kernel
theorem dX2_alloc_73 : decode cX2_alloc 73 = .ok (.aload_n 0, 1) := by decide +kernel
theorem dX2_alloc_74 : decode cX2_alloc 74 = .ok (.getfield 71, 3) := by decide +kernel
theorem dX2_alloc_77 : decode cX2_alloc 77 = .ok (.ifCond .eq 18, 3) := by decide +kernel
theorem dX2_alloc_80 : decode cX2_alloc 80 = .ok (.aload_n 0, 1) := by decide +kernel
theorem dX2_alloc_81 : decode cX2_alloc 81 = .ok (.aload_n 0, 1) := by decide +kernel
theorem dX2_alloc_82 : decode cX2_alloc 82 = .ok (.getfield 28, 3) := by decide +kernel
theorem dX2_alloc_85 : decode cX2_alloc 85 = .ok (.iload_n 2, 1) := by decide +kernel
theorem dX2_alloc_86 : decode cX2_alloc 86 = .ok (.iconst 1, 1) := by decide +kernel
theorem dX2_alloc_87 : decode cX2_alloc 87 = .ok (.iadd, 1) := by decide +kernel
theorem dX2_alloc_88 : decode cX2_alloc 88 = .ok (.imul, 1) := by decide +kernel
theorem dX2_alloc_89 : decode cX2_alloc 89 = .ok (.invokevirtual 75, 3) := by decide +kernel
theorem dX2_alloc_92 : decode cX2_alloc 92 = .ok (.goto 24, 3) := by decide +kernel
theorem dX2_alloc_95 : decode cX2_alloc 95 = .ok (.aload_n 0, 1) := by decide +kernel
theorem dX2_alloc_96 : decode cX2_alloc 96 = .ok (.getfield 36, 3) := by decide +kernel
theorem dX2_alloc_99 : decode cX2_alloc 99 = .ok (.getfield 78, 3) := by decide +kernel
theorem dX2_alloc_102 : decode cX2_alloc 102 = .ok (.iconst 2, 1) := by decide +kernel
theorem dX2_alloc_103 : decode cX2_alloc 103 = .ok (.imul, 1) := by decide +kernel
theorem dX2_alloc_104 : decode cX2_alloc 104 = .ok (.aload_n 0, 1) := by decide +kernel
theorem dX2_alloc_105 : decode cX2_alloc 105 = .ok (.getfield 24, 3) := by decide +kernel
theorem dX2_alloc_108 : decode cX2_alloc 108 = .ok (.if_icmp .le 8, 3) := by decide +kernel
theorem dX2_alloc_111 : decode cX2_alloc 111 = .ok (.aload_n 0, 1) := by decide +kernel
theorem dX2_alloc_112 : decode cX2_alloc 112 = .ok (.iconst 1, 1) := by decide +kernel
theorem dX2_alloc_113 : decode cX2_alloc 113 = .ok (.putfield 71, 3) := by decide +kernel
theorem dX2_alloc_116 : decode cX2_alloc 116 = .ok (.iconst 1, 1) := by decide +kernel
theorem dX2_alloc_117 : decode cX2_alloc 117 = .ok (.ireturn, 1) := by decide +kernel
set_option maxRecDepth 20000 in
theorem ggX2_put_X2_isRoot : GoodIn wsX2_put wsX2_isRoot := goodIn_r _ [11] (by decide +kernel) (by decide +kernel)
set_option maxRecDepth 20000 in
theorem gX2_put_X2_isRoot : GoodIn wsX2_put (va_wsS RX2 43 yX2_isRoot wsX2_isRoot) := goodIn_app (goodIn_of _ (by decide +kernel)) ggX2_put_X2_isRoot
set_option maxRecDepth 20000 in
theorem ggX2_put_X2_hasField : GoodIn wsX2_put wsX2_hasField := goodIn_r _ [15, 5, 6, 7, 80, 81, 82, 83, 84, 85, 86, 87, 88, 89, 90, 91, 92, 93, 94, 95, 96, 97, 98, 99] (by decide +kernel) (by decide +kernel)
set_option maxRecDepth 20000 in
theorem gX2_put_X2_hasField : GoodIn wsX2_put (wsV RX2 81 RX2 yX2_hasField wsX2_hasField) := goodIn_app (goodIn_of _ (by decide +kernel)) ggX2_put_X2_hasField
set_option maxRecDepth 20000 in
theorem ggX2_put_X2_change : GoodIn wsX2_put wsX2_change := goodIn_r _ [19, 6, 20, 21, 22, 23, 24, 25, 26, 27, 28, 29, 30, 31, 32, 33, 34, 35, 36, 37, 38, 39, 40, 41, 42, 43, 44, 10, 45, 46, 47, 48, 49, 50, 51, 52, 53, 54, 55, 56, 57, 58, 7, 59, 60, 61, 62, 63, 64, 65, 66, 67, 68, 69, 70, 71, 72, 73, 74, 5, 75, 76, 77, 78, 79, 80, 81, 82, 83, 84, 85, 86, 87, 88, 89, 90, 91, 92, 93, 94, 95, 96, 97, 98, 99, 100, 101, 102, 103] (by decide +kernel) (by decide +kernel)
set_option maxRecDepth 20000 in
theorem gX2_put_X2_change : GoodIn wsX2_put (wsV RX2 91 RX2 yX2_change wsX2_change) := goodIn_app (goodIn_of _ (by decide +kernel)) ggX2_put_X2_change
theorem dX2_put_0 : decode cX2_put 0 = .ok (.iload_n 1, 1) := by decide +kernel
theorem dX2_put_1 : decode cX2_put 1 = .ok (.invokestatic 43, 3) := by decide +kernel
theorem dX2_put_4 : decode cX2_put 4 = .ok (.ifCond .eq 10, 3) := by decide +kernel
theorem dX2_put_7 : decode cX2_put 7 = .ok (.iload_n 3, 1) := by decide +kernel
theorem dX2_put_8 : decode cX2_put 8 = .ok (.invokestatic 43, 3) := by decide +kernel
theorem dX2_put_11 : decode cX2_put 11 = .ok (.ifCond .ne 11, 3) := by decide +kernel
theorem dX2_put_14 : decode cX2_put 14 = .ok (.new 47, 3) := by decide +kernel
theorem dX2_put_17 : decode cX2_put 17 = .ok (.dup, 1) := by decide +kernel
theorem dX2_put_18 : decode cX2_put 18 = .ok (.invokespecial 49, 3) := by decide +kernel
theorem dX2_put_21 : decode cX2_put 21 = .ok (.athrow, 1) := by decide +kernel
theorem dX2_put_22 : decode cX2_put 22 = .ok (.aload_n 0, 1) := by decide +kernel
theorem dX2_put_23 : decode cX2_put 23 = .ok (.iload_n 1, 1) := by decide +kernel
theorem dX2_put_24 : decode cX2_put 24 = .ok (.iload_n 2, 1) := by decide +kernel
theorem dX2_put_25 : decode cX2_put 25 = .ok (.invokevirtual 81, 3) := by decide +kernel
theorem dX2_put_28 : decode cX2_put 28 = .ok (.ifCond .ne 11, 3) := by decide +kernel
theorem dX2_put_31 : decode cX2_put 31 = .ok (.new 85, 3) := by decide +kernel
theorem dX2_put_34 : decode cX2_put 34 = .ok (.dup, 1) := by decide +kernel
theorem dX2_put_35 : decode cX2_put 35 = .ok (.invokespecial 87, 3) := by decide +kernel
theorem dX2_put_38 : decode cX2_put 38 = .ok (.athrow, 1) := by decide +kernel
theorem dX2_put_39 : decode cX2_put 39 = .ok (.aload_n 0, 1) := by decide +kernel
theorem dX2_put_40 : decode cX2_put 40 = .ok (.getfield 9, 3) := by decide +kernel
theorem dX2_put_43 : decode cX2_put 43 = .ok (.iload_n 3, 1) := by decide +kernel
theorem dX2_put_44 : decode cX2_put 44 = .ok (.baload, 1) := by decide +kernel
theorem dX2_put_45 : decode cX2_put 45 = .ok (.ifCond .eq 15, 3) := by decide +kernel
theorem dX2_put_48 : decode cX2_put 48 = .ok (.iconst 1, 1) := by decide +kernel
theorem dX2_put_49 : decode cX2_put 49 = .ok (.aload_n 0, 1) := by decide +kernel
theorem dX2_put_50 : decode cX2_put 50 = .ok (.getfield 36, 3) := by decide +kernel
theorem dX2_put_53 : decode cX2_put 53 = .ok (.getfield 88, 3) := by decide +kernel
theorem dX2_put_56 : decode cX2_put 56 = .ok (.iadd, 1) := by decide +kernel
theorem dX2_put_57 : decode cX2_put 57 = .ok (.goto 4, 3) := by decide +kernel
theorem dX2_put_60 : decode cX2_put 60 = .ok (.iconst 0, 1) := by decide +kernel
theorem dX2_put_61 : decode cX2_put 61 = .ok (.istore 4, 2) := by decide +kernel
theorem dX2_put_63 : decode cX2_put 63 = .ok (.aload_n 0, 1) := by decide +kernel
theorem dX2_put_64 : decode cX2_put 64 = .ok (.aload_n 0, 1) := by decide +kernel
theorem dX2_put_65 : decode cX2_put 65 = .ok (.getfield 13, 3) := by decide +kernel
theorem dX2_put_68 : decode cX2_put 68 = .ok (.iload_n 1, 1) := by decide +kernel
theorem dX2_put_69 : decode cX2_put 69 = .ok (.iaload, 1) := by decide +kernel
theorem dX2_put_70 : decode cX2_put 70 = .ok (.iload_n 2, 1) := by decide +kernel
theorem dX2_put_71 : decode cX2_put 71 = .ok (.iload 4, 2) := by decide +kernel
theorem dX2_put_73 : decode cX2_put 73 = .ok (.aload_n 0, 1) := by decide +kernel
theorem dX2_put_74 : decode cX2_put 74 = .ok (.getfield 13, 3) := by decide +kernel
theorem dX2_put_77 : decode cX2_put 77 = .ok (.iload_n 3, 1) := by decide +kernel
theorem dX2_put_78 : decode cX2_put 78 = .ok (.iaload, 1) := by decide +kernel
theorem dX2_put_79 : decode cX2_put 79 = .ok (.invokevirtual 91, 3) := by decide +kernel
theorem dX2_put_82 : decode cX2_put 82 = .ok (.return_, 1) := by decide +kernel
set_option maxRecDepth 20000 in
theorem ggX2_putNumber_X2_isRoot : GoodIn wsX2_putNumber wsX2_isRoot := goodIn_r _ [9] (by decide +kernel) (by decide +kernel)
set_option maxRecDepth 20000 in
theorem gX2_putNumber_X2_isRoot : GoodIn wsX2_putNumber (va_wsS RX2 43 yX2_isRoot wsX2_isRoot) := goodIn_app (goodIn_of _ (by decide +kernel)) ggX2_putNumber_X2_isRoot
set_option maxRecDepth 20000 in
theorem ggX2_putNumber_X2_hasField : GoodIn wsX2_putNumber wsX2_hasField := goodIn_r _ [13, 14, 15, 5, 80, 81, 82, 83, 84, 85, 86, 87, 88, 89, 90, 91, 92, 93, 94, 95, 96, 97, 98, 99] (by decide +kernel) (by decide +kernel)
set_option maxRecDepth 20000 in
theorem gX2_putNumber_X2_hasField : GoodIn wsX2_putNumber (wsV RX2 81 RX2 yX2_hasField wsX2_hasField) := goodIn_app (goodIn_of _ (by decide +kernel)) ggX2_putNumber_X2_hasField
set_option maxRecDepth 20000 in
theorem ggX2_putNumber_X2_change : GoodIn wsX2_putNumber wsX2_change := goodIn_r _ [19, 15, 20, 21, 22, 23, 24, 25, 26, 27, 28, 29, 30, 31, 32, 33, 34, 35, 36, 37, 38, 39, 40, 41, 42, 43, 44, 8, 45, 46, 47, 48, 49, 50, 51, 52, 53, 54, 55, 56, 57, 58, 5, 59, 60, 61, 62, 63, 64, 65, 66, 67, 68, 69, 70, 71, 72, 73, 74, 14, 75, 76, 77, 78, 79, 80, 81, 82, 83, 84, 85, 86, 87, 88, 89, 90, 91, 92, 93, 94, 95, 96, 97, 98, 99, 100, 101, 102, 103] (by decide +kernel) (by decide +kernel)
set_option maxRecDepth 20000 in
theorem gX2_putNumber_X2_change : GoodIn wsX2_putNumber (wsV RX2 91 RX2 yX2_change wsX2_change) := goodIn_app (goodIn_of _ (by decide +kernel)) ggX2_putNumber_X2_change
theorem dX2_putNumber_0 : decode cX2_putNumber 0 = .ok (.iload_n 1, 1) := by decide +kernel
theorem dX2_putNumber_1 : decode cX2_putNumber 1 = .ok (.invokestatic 43, 3) := by decide +kernel
theorem dX2_putNumber_4 : decode cX2_putNumber 4 = .ok (.ifCond .ne 11, 3) := by decide +kernel
theorem dX2_putNumber_7 : decode cX2_putNumber 7 = .ok (.new 47, 3) := by decide +kernel
theorem dX2_putNumber_10 : decode cX2_putNumber 10 = .ok (.dup, 1) := by decide +kernel
theorem dX2_putNumber_11 : decode cX2_putNumber 11 = .ok (.invokespecial 49, 3) := by decide +kernel
theorem dX2_putNumber_14 : decode cX2_putNumber 14 = .ok (.athrow, 1) := by decide +kernel
theorem dX2_putNumber_15 : decode cX2_putNumber 15 = .ok (.aload_n 0, 1) := by decide +kernel
theorem dX2_putNumber_16 : decode cX2_putNumber 16 = .ok (.iload_n 1, 1) := by decide +kernel
theorem dX2_putNumber_17 : decode cX2_putNumber 17 = .ok (.iload_n 2, 1) := by decide +kernel
theorem dX2_putNumber_18 : decode cX2_putNumber 18 = .ok (.invokevirtual 81, 3) := by decide +kernel
theorem dX2_putNumber_21 : decode cX2_putNumber 21 = .ok (.ifCond .ne 11, 3) := by decide +kernel
theorem dX2_putNumber_24 : decode cX2_putNumber 24 = .ok (.new 85, 3) := by decide +kernel
theorem dX2_putNumber_27 : decode cX2_putNumber 27 = .ok (.dup, 1) := by decide +kernel
theorem dX2_putNumber_28 : decode cX2_putNumber 28 = .ok (.invokespecial 87, 3) := by decide +kernel
theorem dX2_putNumber_31 : decode cX2_putNumber 31 = .ok (.athrow, 1) := by decide +kernel
theorem dX2_putNumber_32 : decode cX2_putNumber 32 = .ok (.aload_n 0, 1) := by decide +kernel
theorem dX2_putNumber_33 : decode cX2_putNumber 33 = .ok (.aload_n 0, 1) := by decide +kernel
theorem dX2_putNumber_34 : decode cX2_putNumber 34 = .ok (.getfield 13, 3) := by decide +kernel
theorem dX2_putNumber_37 : decode cX2_putNumber 37 = .ok (.iload_n 1, 1) := by decide +kernel
theorem dX2_putNumber_38 : decode cX2_putNumber 38 = .ok (.iaload, 1) := by decide +kernel
theorem dX2_putNumber_39 : decode cX2_putNumber 39 = .ok (.iload_n 2, 1) := by decide +kernel
theorem dX2_putNumber_40 : decode cX2_putNumber 40 = .ok (.iconst 0, 1) := by decide +kernel
theorem dX2_putNumber_41 : decode cX2_putNumber 41 = .ok (.iload_n 3, 1) := by decide +kernel
theorem dX2_putNumber_42 : decode cX2_putNumber 42 = .ok (.invokevirtual 91, 3) := by decide +kernel
theorem dX2_putNumber_45 : decode cX2_putNumber 45 = .ok (.return_, 1) := by decide +kernel
set_option maxRecDepth 20000 in
theorem ggX2_get_X2_isRoot : GoodIn wsX2_get wsX2_isRoot := goodIn_r _ [10] (by decide +kernel) (by decide +kernel)
set_option maxRecDepth 20000 in
theorem gX2_get_X2_isRoot : GoodIn wsX2_get (va_wsS RX2 43 yX2_isRoot wsX2_isRoot) := goodIn_app (goodIn_of _ (by decide +kernel)) ggX2_get_X2_isRoot
set_option maxRecDepth 20000 in
theorem ggX2_get_X2_hasField : GoodIn wsX2_get wsX2_hasField := goodIn_r _ [14, 15, 6, 5, 20, 21, 22, 23, 24, 25, 26, 27, 28, 29, 30, 31, 32, 33, 34, 35, 36, 37, 38, 39] (by decide +kernel) (by decide +kernel)
set_option maxRecDepth 20000 in
theorem gX2_get_X2_hasField : GoodIn wsX2_get (wsV RX2 81 RX2 yX2_hasField wsX2_hasField) := goodIn_app (goodIn_of _ (by decide +kernel)) ggX2_get_X2_hasField
set_option maxRecDepth 20000 in
theorem ggX2_get_X2_setRoot : GoodIn wsX2_get wsX2_setRoot := goodIn_r _ [19, 15, 5, 20, 21, 22, 23, 24, 25, 26, 27, 28, 29, 30, 31, 32, 33, 34] (by decide +kernel) (by decide +kernel)
set_option maxRecDepth 20000 in
theorem gX2_get_X2_setRoot : GoodIn wsX2_get (wsV RX2 64 RX2 yX2_setRoot wsX2_setRoot) := goodIn_app (goodIn_of _ (by decide +kernel)) ggX2_get_X2_setRoot
theorem dX2_get_0 : decode cX2_get 0 = .ok (.iload_n 1, 1) := by decide +kernel
theorem dX2_get_1 : decode cX2_get 1 = .ok (.invokestatic 43, 3) := by decide +kernel
theorem dX2_get_4 : decode cX2_get 4 = .ok (.ifCond .eq 10, 3) := by decide +kernel
theorem dX2_get_7 : decode cX2_get 7 = .ok (.iload_n 2, 1) := by decide +kernel
theorem dX2_get_8 : decode cX2_get 8 = .ok (.invokestatic 43, 3) := by decide +kernel
theorem dX2_get_11 : decode cX2_get 11 = .ok (.ifCond .ne 11, 3) := by decide +kernel
theorem dX2_get_14 : decode cX2_get 14 = .ok (.new 47, 3) := by decide +kernel
theorem dX2_get_17 : decode cX2_get 17 = .ok (.dup, 1) := by decide +kernel
theorem dX2_get_18 : decode cX2_get 18 = .ok (.invokespecial 49, 3) := by decide +kernel
theorem dX2_get_21 : decode cX2_get 21 = .ok (.athrow, 1) := by decide +kernel
theorem dX2_get_22 : decode cX2_get 22 = .ok (.aload_n 0, 1) := by decide +kernel
theorem dX2_get_23 : decode cX2_get 23 = .ok (.iload_n 2, 1) := by decide +kernel
theorem dX2_get_24 : decode cX2_get 24 = .ok (.iload_n 3, 1) := by decide +kernel
theorem dX2_get_25 : decode cX2_get 25 = .ok (.invokevirtual 81, 3) := by decide +kernel
theorem dX2_get_28 : decode cX2_get 28 = .ok (.ifCond .ne 11, 3) := by decide +kernel
theorem dX2_get_31 : decode cX2_get 31 = .ok (.new 85, 3) := by decide +kernel
theorem dX2_get_34 : decode cX2_get 34 = .ok (.dup, 1) := by decide +kernel
theorem dX2_get_35 : decode cX2_get 35 = .ok (.invokespecial 87, 3) := by decide +kernel
theorem dX2_get_38 : decode cX2_get 38 = .ok (.athrow, 1) := by decide +kernel
theorem dX2_get_39 : decode cX2_get 39 = .ok (.aload_n 0, 1) := by decide +kernel
theorem dX2_get_40 : decode cX2_get 40 = .ok (.getfield 13, 3) := by decide +kernel
theorem dX2_get_43 : decode cX2_get 43 = .ok (.iload_n 2, 1) := by decide +kernel
theorem dX2_get_44 : decode cX2_get 44 = .ok (.iaload, 1) := by decide +kernel
theorem dX2_get_45 : decode cX2_get 45 = .ok (.iconst 1, 1) := by decide +kernel
theorem dX2_get_46 : decode cX2_get 46 = .ok (.iadd, 1) := by decide +kernel
theorem dX2_get_47 : decode cX2_get 47 = .ok (.iload_n 3, 1) := by decide +kernel
theorem dX2_get_48 : decode cX2_get 48 = .ok (.iadd, 1) := by decide +kernel
theorem dX2_get_49 : decode cX2_get 49 = .ok (.istore 4, 2) := by decide +kernel
theorem dX2_get_51 : decode cX2_get 51 = .ok (.aload_n 0, 1) := by decide +kernel
theorem dX2_get_52 : decode cX2_get 52 = .ok (.iload_n 1, 1) := by decide +kernel
theorem dX2_get_53 : decode cX2_get 53 = .ok (.aload_n 0, 1) := by decide +kernel
theorem dX2_get_54 : decode cX2_get 54 = .ok (.getfield 36, 3) := by decide +kernel
theorem dX2_get_57 : decode cX2_get 57 = .ok (.getfield 95, 3) := by decide +kernel
theorem dX2_get_60 : decode cX2_get 60 = .ok (.iload 4, 2) := by decide +kernel
theorem dX2_get_62 : decode cX2_get 62 = .ok (.iaload, 1) := by decide +kernel
theorem dX2_get_63 : decode cX2_get 63 = .ok (.ifCond .eq 7, 3) := by decide +kernel
theorem dX2_get_66 : decode cX2_get 66 = .ok (.iconst 1, 1) := by decide +kernel
theorem dX2_get_67 : decode cX2_get 67 = .ok (.goto 4, 3) := by decide +kernel
theorem dX2_get_70 : decode cX2_get 70 = .ok (.iconst 0, 1) := by decide +kernel
theorem dX2_get_71 : decode cX2_get 71 = .ok (.aload_n 0, 1) := by decide +kernel
theorem dX2_get_72 : decode cX2_get 72 = .ok (.getfield 36, 3) := by decide +kernel
theorem dX2_get_75 : decode cX2_get 75 = .ok (.getfield 98, 3) := by decide +kernel
theorem dX2_get_78 : decode cX2_get 78 = .ok (.iload 4, 2) := by decide +kernel
theorem dX2_get_80 : decode cX2_get 80 = .ok (.iaload, 1) := by decide +kernel
theorem dX2_get_81 : decode cX2_get 81 = .ok (.invokevirtual 64, 3) := by decide +kernel
theorem dX2_get_84 : decode cX2_get 84 = .ok (.return_, 1) := by decide +kernel
set_option maxRecDepth 20000 in
theorem ggX2_move_X2_isRoot : GoodIn wsX2_move wsX2_isRoot := goodIn_r _ [6] (by decide +kernel) (by decide +kernel)
set_option maxRecDepth 20000 in
theorem gX2_move_X2_isRoot : GoodIn wsX2_move (va_wsS RX2 43 yX2_isRoot wsX2_isRoot) := goodIn_app (goodIn_of _ (by decide +kernel)) ggX2_move_X2_isRoot
set_option maxRecDepth 20000 in
theorem ggX2_move_X2_setRoot : GoodIn wsX2_move wsX2_setRoot := goodIn_r _ [10, 1, 2, 11, 12, 13, 14, 15, 16, 17, 18, 19, 20, 21, 22, 23, 24, 25] (by decide +kernel) (by decide +kernel)
set_option maxRecDepth 20000 in
theorem gX2_move_X2_setRoot : GoodIn wsX2_move (wsV RX2 64 RX2 yX2_setRoot wsX2_setRoot) := goodIn_app (goodIn_of _ (by decide +kernel)) ggX2_move_X2_setRoot
theorem dX2_move_0 : decode cX2_move 0 = .ok (.iload_n 1, 1) := by decide +kernel
theorem dX2_move_1 : decode cX2_move 1 = .ok (.invokestatic 43, 3) := by decide +kernel
theorem dX2_move_4 : decode cX2_move 4 = .ok (.ifCond .eq 10, 3) := by decide +kernel
theorem dX2_move_7 : decode cX2_move 7 = .ok (.iload_n 2, 1) := by decide +kernel
theorem dX2_move_8 : decode cX2_move 8 = .ok (.invokestatic 43, 3) := by decide +kernel
theorem dX2_move_11 : decode cX2_move 11 = .ok (.ifCond .ne 5, 3) := by decide +kernel
theorem dX2_move_14 : decode cX2_move 14 = .ok (.iconst 0, 1) := by decide +kernel
theorem dX2_move_15 : decode cX2_move 15 = .ok (.ireturn, 1) := by decide +kernel
theorem dX2_move_16 : decode cX2_move 16 = .ok (.aload_n 0, 1) := by decide +kernel
theorem dX2_move_17 : decode cX2_move 17 = .ok (.iload_n 1, 1) := by decide +kernel
theorem dX2_move_18 : decode cX2_move 18 = .ok (.aload_n 0, 1) := by decide +kernel
theorem dX2_move_19 : decode cX2_move 19 = .ok (.getfield 9, 3) := by decide +kernel
theorem dX2_move_22 : decode cX2_move 22 = .ok (.iload_n 2, 1) := by decide +kernel
theorem dX2_move_23 : decode cX2_move 23 = .ok (.baload, 1) := by decide +kernel
theorem dX2_move_24 : decode cX2_move 24 = .ok (.aload_n 0, 1) := by decide +kernel
theorem dX2_move_25 : decode cX2_move 25 = .ok (.getfield 13, 3) := by decide +kernel
theorem dX2_move_28 : decode cX2_move 28 = .ok (.iload_n 2, 1) := by decide +kernel
theorem dX2_move_29 : decode cX2_move 29 = .ok (.iaload, 1) := by decide +kernel
theorem dX2_move_30 : decode cX2_move 30 = .ok (.invokevirtual 64, 3) := by decide +kernel
theorem dX2_move_33 : decode cX2_move 33 = .ok (.iconst 1, 1) := by decide +kernel
theorem dX2_move_34 : decode cX2_move 34 = .ok (.ireturn, 1) := by decide +kernel
set_option maxRecDepth 20000 in
theorem ggX2_number_X2_isRoot : GoodIn wsX2_number wsX2_isRoot := goodIn_r _ [4] (by decide +kernel) (by decide +kernel)
set_option maxRecDepth 20000 in
theorem gX2_number_X2_isRoot : GoodIn wsX2_number (va_wsS RX2 43 yX2_isRoot wsX2_isRoot) := goodIn_app (goodIn_of _ (by decide +kernel)) ggX2_number_X2_isRoot
set_option maxRecDepth 20000 in
theorem ggX2_number_X2_setRoot : GoodIn wsX2_number wsX2_setRoot := goodIn_r _ [8, 9, 10, 11, 12, 13, 14, 15, 16, 17, 18, 19, 20, 21, 22, 23, 24, 25] (by decide +kernel) (by decide +kernel)
set_option maxRecDepth 20000 in
theorem gX2_number_X2_setRoot : GoodIn wsX2_number (wsV RX2 64 RX2 yX2_setRoot wsX2_setRoot) := goodIn_app (goodIn_of _ (by decide +kernel)) ggX2_number_X2_setRoot
theorem dX2_number_0 : decode cX2_number 0 = .ok (.iload_n 1, 1) := by decide +kernel
theorem dX2_number_1 : decode cX2_number 1 = .ok (.invokestatic 43, 3) := by decide +kernel
theorem dX2_number_4 : decode cX2_number 4 = .ok (.ifCond .ne 5, 3) := by decide +kernel
theorem dX2_number_7 : decode cX2_number 7 = .ok (.iconst 0, 1) := by decide +kernel
theorem dX2_number_8 : decode cX2_number 8 = .ok (.ireturn, 1) := by decide +kernel
theorem dX2_number_9 : decode cX2_number 9 = .ok (.aload_n 0, 1) := by decide +kernel
theorem dX2_number_10 : decode cX2_number 10 = .ok (.iload_n 1, 1) := by decide +kernel
theorem dX2_number_11 : decode cX2_number 11 = .ok (.iconst 0, 1) := by decide +kernel
theorem dX2_number_12 : decode cX2_number 12 = .ok (.iload_n 2, 1) := by decide +kernel
theorem dX2_number_13 : decode cX2_number 13 = .ok (.invokevirtual 64, 3) := by decide +kernel
theorem dX2_number_16 : decode cX2_number 16 = .ok (.iconst 1, 1) := by decide +kernel
theorem dX2_number_17 : decode cX2_number 17 = .ok (.ireturn, 1) := by decide +kernel
set_option maxRecDepth 20000 in
theorem ggX2_collect_X2_work : GoodIn wsX2_collect wsX2_work := goodIn_r _ [10, 4, 5, 11, 3, 12, 13, 14, 15, 16, 17, 18, 19, 9, 20, 21, 22, 23, 24, 25, 26, 27, 28, 29, 30, 31, 32, 33, 34, 35, 36, 37, 38, 39, 40, 41, 42, 43, 44, 45, 46, 47, 48, 49, 50, 51, 52, 53, 54, 55, 56, 57, 58, 59, 60, 61, 62, 63, 64, 65, 66, 67, 68, 69, 70, 71, 72, 73, 74, 75, 76, 77, 78, 79, 80, 81, 82, 83] (by decide +kernel) (by decide +kernel)
set_option maxRecDepth 20000 in
theorem gX2_collect_X2_work : GoodIn wsX2_collect (wsV RX2 75 RX2 yX2_work wsX2_work) := goodIn_app (goodIn_of _ (by decide +kernel)) ggX2_collect_X2_work
theorem dX2_collect_0 : decode cX2_collect 0 = .ok (.iload_n 1, 1) := by decide +kernel
theorem dX2_collect_1 : decode cX2_collect 1 = .ok (.iconst (-1), 1) := by decide +kernel
theorem dX2_collect_2 : decode cX2_collect 2 = .ok (.if_icmp .ge 11, 3) := by decide +kernel
theorem dX2_collect_5 : decode cX2_collect 5 = .ok (.new 47, 3) := by decide +kernel
theorem dX2_collect_8 : decode cX2_collect 8 = .ok (.dup, 1) := by decide +kernel
theorem dX2_collect_9 : decode cX2_collect 9 = .ok (.invokespecial 49, 3) := by decide +kernel
theorem dX2_collect_12 : decode cX2_collect 12 = .ok (.athrow, 1) := by decide +kernel
theorem dX2_collect_13 : decode cX2_collect 13 = .ok (.aload_n 0, 1) := by decide +kernel
theorem dX2_collect_14 : decode cX2_collect 14 = .ok (.iconst 0, 1) := by decide +kernel
theorem dX2_collect_15 : decode cX2_collect 15 = .ok (.putfield 50, 3) := by decide +kernel
theorem dX2_collect_18 : decode cX2_collect 18 = .ok (.aload_n 0, 1) := by decide +kernel
theorem dX2_collect_19 : decode cX2_collect 19 = .ok (.iconst 1, 1) := by decide +kernel
theorem dX2_collect_20 : decode cX2_collect 20 = .ok (.putfield 71, 3) := by decide +kernel
theorem dX2_collect_23 : decode cX2_collect 23 = .ok (.aload_n 0, 1) := by decide +kernel
theorem dX2_collect_24 : decode cX2_collect 24 = .ok (.iload_n 1, 1) := by decide +kernel
theorem dX2_collect_25 : decode cX2_collect 25 = .ok (.iconst (-1), 1) := by decide +kernel
theorem dX2_collect_26 : decode cX2_collect 26 = .ok (.if_icmp .ne 8, 3) := by decide +kernel
theorem dX2_collect_29 : decode cX2_collect 29 = .ok (.ldc 101, 2) := by decide +kernel
theorem dX2_collect_31 : decode cX2_collect 31 = .ok (.goto 4, 3) := by decide +kernel
theorem dX2_collect_34 : decode cX2_collect 34 = .ok (.iload_n 1, 1) := by decide +kernel
theorem dX2_collect_35 : decode cX2_collect 35 = .ok (.invokevirtual 75, 3) := by decide +kernel
theorem dX2_collect_38 : decode cX2_collect 38 = .ok (.aload_n 0, 1) := by decide +kernel
theorem dX2_collect_39 : decode cX2_collect 39 = .ok (.getfield 50, 3) := by decide +kernel
theorem dX2_collect_42 : decode cX2_collect 42 = .ok (.ireturn, 1) := by decide +kernel
set_option maxRecDepth 20000 in
theorem ggX2_look_X2_isRoot : GoodIn wsX2_look wsX2_isRoot := goodIn_r _ [9] (by decide +kernel) (by decide +kernel)
set_option maxRecDepth 20000 in
theorem gX2_look_X2_isRoot : GoodIn wsX2_look (va_wsS RX2 43 yX2_isRoot wsX2_isRoot) := goodIn_app (goodIn_of _ (by decide +kernel)) ggX2_look_X2_isRoot
theorem dX2_look_0 : decode cX2_look 0 = .ok (.iload_n 1, 1) := by decide +kernel
theorem dX2_look_1 : decode cX2_look 1 = .ok (.invokestatic 43, 3) := by decide +kernel
theorem dX2_look_4 : decode cX2_look 4 = .ok (.ifCond .eq 12, 3) := by decide +kernel
theorem dX2_look_7 : decode cX2_look 7 = .ok (.iload_n 2, 1) := by decide +kernel
theorem dX2_look_8 : decode cX2_look 8 = .ok (.ifCond .lt 8, 3) := by decide +kernel
theorem dX2_look_11 : decode cX2_look 11 = .ok (.iload_n 2, 1) := by decide +kernel
theorem dX2_look_12 : decode cX2_look 12 = .ok (.iconst 3, 1) := by decide +kernel
theorem dX2_look_13 : decode cX2_look 13 = .ok (.if_icmp .le 11, 3) := by decide +kernel
theorem dX2_look_16 : decode cX2_look 16 = .ok (.new 102, 3) := by decide +kernel
theorem dX2_look_19 : decode cX2_look 19 = .ok (.dup, 1) := by decide +kernel
theorem dX2_look_20 : decode cX2_look 20 = .ok (.invokespecial 104, 3) := by decide +kernel
theorem dX2_look_23 : decode cX2_look 23 = .ok (.athrow, 1) := by decide +kernel
theorem dX2_look_24 : decode cX2_look 24 = .ok (.aload_n 0, 1) := by decide +kernel
theorem dX2_look_25 : decode cX2_look 25 = .ok (.getfield 9, 3) := by decide +kernel
theorem dX2_look_28 : decode cX2_look 28 = .ok (.iload_n 1, 1) := by decide +kernel
theorem dX2_look_29 : decode cX2_look 29 = .ok (.baload, 1) := by decide +kernel
theorem dX2_look_30 : decode cX2_look 30 = .ok (.istore_n 3, 1) := by decide +kernel
theorem dX2_look_31 : decode cX2_look 31 = .ok (.aload_n 0, 1) := by decide +kernel
theorem dX2_look_32 : decode cX2_look 32 = .ok (.getfield 13, 3) := by decide +kernel
theorem dX2_look_35 : decode cX2_look 35 = .ok (.iload_n 1, 1) := by decide +kernel
theorem dX2_look_36 : decode cX2_look 36 = .ok (.iaload, 1) := by decide +kernel
theorem dX2_look_37 : decode cX2_look 37 = .ok (.istore 4, 2) := by decide +kernel
theorem dX2_look_39 : decode cX2_look 39 = .ok (.iload_n 2, 1) := by decide +kernel
theorem dX2_look_40 : decode cX2_look 40 = .ok (.tableswitch 60 0 2 #[28, 38, 41], 28) := by decide +kernel
theorem dX2_look_68 : decode cX2_look 68 = .ok (.iload_n 3, 1) := by decide +kernel
theorem dX2_look_69 : decode cX2_look 69 = .ok (.ifCond .eq 7, 3) := by decide +kernel
theorem dX2_look_72 : decode cX2_look 72 = .ok (.iconst 1, 1) := by decide +kernel
theorem dX2_look_73 : decode cX2_look 73 = .ok (.goto 4, 3) := by decide +kernel
theorem dX2_look_76 : decode cX2_look 76 = .ok (.iconst 0, 1) := by decide +kernel
theorem dX2_look_77 : decode cX2_look 77 = .ok (.ireturn, 1) := by decide +kernel
theorem dX2_look_78 : decode cX2_look 78 = .ok (.iload 4, 2) := by decide +kernel
theorem dX2_look_80 : decode cX2_look 80 = .ok (.ireturn, 1) := by decide +kernel
theorem dX2_look_81 : decode cX2_look 81 = .ok (.iload_n 3, 1) := by decide +kernel
theorem dX2_look_82 : decode cX2_look 82 = .ok (.ifCond .eq 16, 3) := by decide +kernel
theorem dX2_look_85 : decode cX2_look 85 = .ok (.aload_n 0, 1) := by decide +kernel
theorem dX2_look_86 : decode cX2_look 86 = .ok (.getfield 36, 3) := by decide +kernel
theorem dX2_look_89 : decode cX2_look 89 = .ok (.getfield 98, 3) := by decide +kernel
theorem dX2_look_92 : decode cX2_look 92 = .ok (.iload 4, 2) := by decide +kernel
theorem dX2_look_94 : decode cX2_look 94 = .ok (.iaload, 1) := by decide +kernel
theorem dX2_look_95 : decode cX2_look 95 = .ok (.goto 4, 3) := by decide +kernel
theorem dX2_look_98 : decode cX2_look 98 = .ok (.iconst 0, 1) := by decide +kernel
theorem dX2_look_99 : decode cX2_look 99 = .ok (.ireturn, 1) := by decide +kernel
theorem dX2_look_100 : decode cX2_look 100 = .ok (.iload_n 3, 1) := by decide +kernel
theorem dX2_look_101 : decode cX2_look 101 = .ok (.ifCond .eq 16, 3) := by decide +kernel
theorem dX2_look_104 : decode cX2_look 104 = .ok (.aload_n 0, 1) := by decide +kernel
theorem dX2_look_105 : decode cX2_look 105 = .ok (.getfield 36, 3) := by decide +kernel
theorem dX2_look_108 : decode cX2_look 108 = .ok (.getfield 105, 3) := by decide +kernel
theorem dX2_look_111 : decode cX2_look 111 = .ok (.iload 4, 2) := by decide +kernel
theorem dX2_look_113 : decode cX2_look 113 = .ok (.iaload, 1) := by decide +kernel
theorem dX2_look_114 : decode cX2_look 114 = .ok (.goto 4, 3) := by decide +kernel
theorem dX2_look_117 : decode cX2_look 117 = .ok (.iconst (-1), 1) := by decide +kernel
theorem dX2_look_118 : decode cX2_look 118 = .ok (.ireturn, 1) := by decide +kernel
set_option maxRecDepth 20000 in
theorem ggX2_field_X2_isRoot : GoodIn wsX2_field wsX2_isRoot := goodIn_r _ [8] (by decide +kernel) (by decide +kernel)
set_option maxRecDepth 20000 in
theorem gX2_field_X2_isRoot : GoodIn wsX2_field (va_wsS RX2 43 yX2_isRoot wsX2_isRoot) := goodIn_app (goodIn_of _ (by decide +kernel)) ggX2_field_X2_isRoot
set_option maxRecDepth 20000 in
theorem ggX2_field_X2_hasField : GoodIn wsX2_field wsX2_hasField := goodIn_r _ [12, 13, 4, 3, 14, 15, 16, 17, 18, 19, 20, 21, 22, 23, 24, 25, 26, 27, 28, 29, 30, 31, 32, 33] (by decide +kernel) (by decide +kernel)
set_option maxRecDepth 20000 in
theorem gX2_field_X2_hasField : GoodIn wsX2_field (wsV RX2 81 RX2 yX2_hasField wsX2_hasField) := goodIn_app (goodIn_of _ (by decide +kernel)) ggX2_field_X2_hasField
theorem dX2_field_0 : decode cX2_field 0 = .ok (.iload_n 1, 1) := by decide +kernel
theorem dX2_field_1 : decode cX2_field 1 = .ok (.invokestatic 43, 3) := by decide +kernel
theorem dX2_field_4 : decode cX2_field 4 = .ok (.ifCond .eq 21, 3) := by decide +kernel
theorem dX2_field_7 : decode cX2_field 7 = .ok (.aload_n 0, 1) := by decide +kernel
theorem dX2_field_8 : decode cX2_field 8 = .ok (.iload_n 1, 1) := by decide +kernel
theorem dX2_field_9 : decode cX2_field 9 = .ok (.iload_n 2, 1) := by decide +kernel
theorem dX2_field_10 : decode cX2_field 10 = .ok (.invokevirtual 81, 3) := by decide +kernel
theorem dX2_field_13 : decode cX2_field 13 = .ok (.ifCond .eq 12, 3) := by decide +kernel
theorem dX2_field_16 : decode cX2_field 16 = .ok (.iload_n 3, 1) := by decide +kernel
theorem dX2_field_17 : decode cX2_field 17 = .ok (.ifCond .lt 8, 3) := by decide +kernel
theorem dX2_field_20 : decode cX2_field 20 = .ok (.iload_n 3, 1) := by decide +kernel
theorem dX2_field_21 : decode cX2_field 21 = .ok (.iconst 1, 1) := by decide +kernel
theorem dX2_field_22 : decode cX2_field 22 = .ok (.if_icmp .le 11, 3) := by decide +kernel
theorem dX2_field_25 : decode cX2_field 25 = .ok (.new 102, 3) := by decide +kernel
theorem dX2_field_28 : decode cX2_field 28 = .ok (.dup, 1) := by decide +kernel
theorem dX2_field_29 : decode cX2_field 29 = .ok (.invokespecial 104, 3) := by decide +kernel
theorem dX2_field_32 : decode cX2_field 32 = .ok (.athrow, 1) := by decide +kernel
theorem dX2_field_33 : decode cX2_field 33 = .ok (.aload_n 0, 1) := by decide +kernel
theorem dX2_field_34 : decode cX2_field 34 = .ok (.getfield 13, 3) := by decide +kernel
theorem dX2_field_37 : decode cX2_field 37 = .ok (.iload_n 1, 1) := by decide +kernel
theorem dX2_field_38 : decode cX2_field 38 = .ok (.iaload, 1) := by decide +kernel
theorem dX2_field_39 : decode cX2_field 39 = .ok (.iconst 1, 1) := by decide +kernel
theorem dX2_field_40 : decode cX2_field 40 = .ok (.iadd, 1) := by decide +kernel
theorem dX2_field_41 : decode cX2_field 41 = .ok (.iload_n 2, 1) := by decide +kernel
theorem dX2_field_42 : decode cX2_field 42 = .ok (.iadd, 1) := by decide +kernel
theorem dX2_field_43 : decode cX2_field 43 = .ok (.istore 4, 2) := by decide +kernel
theorem dX2_field_45 : decode cX2_field 45 = .ok (.iload_n 3, 1) := by decide +kernel
theorem dX2_field_46 : decode cX2_field 46 = .ok (.ifCond .ne 22, 3) := by decide +kernel
theorem dX2_field_49 : decode cX2_field 49 = .ok (.aload_n 0, 1) := by decide +kernel
theorem dX2_field_50 : decode cX2_field 50 = .ok (.getfield 36, 3) := by decide +kernel
theorem dX2_field_53 : decode cX2_field 53 = .ok (.getfield 95, 3) := by decide +kernel
theorem dX2_field_56 : decode cX2_field 56 = .ok (.iload 4, 2) := by decide +kernel
theorem dX2_field_58 : decode cX2_field 58 = .ok (.iaload, 1) := by decide +kernel
theorem dX2_field_59 : decode cX2_field 59 = .ok (.ifCond .eq 7, 3) := by decide +kernel
theorem dX2_field_62 : decode cX2_field 62 = .ok (.iconst 1, 1) := by decide +kernel
theorem dX2_field_63 : decode cX2_field 63 = .ok (.goto 4, 3) := by decide +kernel
theorem dX2_field_66 : decode cX2_field 66 = .ok (.iconst 0, 1) := by decide +kernel
theorem dX2_field_67 : decode cX2_field 67 = .ok (.ireturn, 1) := by decide +kernel
theorem dX2_field_68 : decode cX2_field 68 = .ok (.aload_n 0, 1) := by decide +kernel
theorem dX2_field_69 : decode cX2_field 69 = .ok (.getfield 36, 3) := by decide +kernel
theorem dX2_field_72 : decode cX2_field 72 = .ok (.getfield 98, 3) := by decide +kernel
theorem dX2_field_75 : decode cX2_field 75 = .ok (.iload 4, 2) := by decide +kernel
theorem dX2_field_77 : decode cX2_field 77 = .ok (.iaload, 1) := by decide +kernel
theorem dX2_field_78 : decode cX2_field 78 = .ok (.ireturn, 1) := by decide +kernel
theorem dX2_cell_0 : decode cX2_cell 0 = .ok (.iload_n 1, 1) := by decide +kernel
theorem dX2_cell_1 : decode cX2_cell 1 = .ok (.ifCond .lt 17, 3) := by decide +kernel
theorem dX2_cell_4 : decode cX2_cell 4 = .ok (.iload_n 1, 1) := by decide +kernel
theorem dX2_cell_5 : decode cX2_cell 5 = .ok (.iconst 1, 1) := by decide +kernel
theorem dX2_cell_6 : decode cX2_cell 6 = .ok (.if_icmp .gt 12, 3) := by decide +kernel
theorem dX2_cell_9 : decode cX2_cell 9 = .ok (.iload_n 3, 1) := by decide +kernel
theorem dX2_cell_10 : decode cX2_cell 10 = .ok (.ifCond .lt 8, 3) := by decide +kernel
theorem dX2_cell_13 : decode cX2_cell 13 = .ok (.iload_n 3, 1) := by decide +kernel
theorem dX2_cell_14 : decode cX2_cell 14 = .ok (.iconst 2, 1) := by decide +kernel
theorem dX2_cell_15 : decode cX2_cell 15 = .ok (.if_icmp .le 11, 3) := by decide +kernel
theorem dX2_cell_18 : decode cX2_cell 18 = .ok (.new 102, 3) := by decide +kernel
theorem dX2_cell_21 : decode cX2_cell 21 = .ok (.dup, 1) := by decide +kernel
theorem dX2_cell_22 : decode cX2_cell 22 = .ok (.invokespecial 104, 3) := by decide +kernel
theorem dX2_cell_25 : decode cX2_cell 25 = .ok (.athrow, 1) := by decide +kernel
theorem dX2_cell_26 : decode cX2_cell 26 = .ok (.iload_n 1, 1) := by decide +kernel
theorem dX2_cell_27 : decode cX2_cell 27 = .ok (.aload_n 0, 1) := by decide +kernel
theorem dX2_cell_28 : decode cX2_cell 28 = .ok (.getfield 36, 3) := by decide +kernel
theorem dX2_cell_31 : decode cX2_cell 31 = .ok (.getfield 88, 3) := by decide +kernel
theorem dX2_cell_34 : decode cX2_cell 34 = .ok (.if_icmp .ne 10, 3) := by decide +kernel
theorem dX2_cell_37 : decode cX2_cell 37 = .ok (.aload_n 0, 1) := by decide +kernel
theorem dX2_cell_38 : decode cX2_cell 38 = .ok (.getfield 36, 3) := by decide +kernel
theorem dX2_cell_41 : decode cX2_cell 41 = .ok (.goto 7, 3) := by decide +kernel
theorem dX2_cell_44 : decode cX2_cell 44 = .ok (.aload_n 0, 1) := by decide +kernel
theorem dX2_cell_45 : decode cX2_cell 45 = .ok (.getfield 40, 3) := by decide +kernel
theorem dX2_cell_48 : decode cX2_cell 48 = .ok (.astore 4, 2) := by decide +kernel
theorem dX2_cell_50 : decode cX2_cell 50 = .ok (.iload_n 2, 1) := by decide +kernel
theorem dX2_cell_51 : decode cX2_cell 51 = .ok (.ifCond .lt 12, 3) := by decide +kernel
theorem dX2_cell_54 : decode cX2_cell 54 = .ok (.iload_n 2, 1) := by decide +kernel
theorem dX2_cell_55 : decode cX2_cell 55 = .ok (.aload 4, 2) := by decide +kernel
theorem dX2_cell_57 : decode cX2_cell 57 = .ok (.getfield 78, 3) := by decide +kernel
theorem dX2_cell_60 : decode cX2_cell 60 = .ok (.if_icmp .lt 11, 3) := by decide +kernel
theorem dX2_cell_63 : decode cX2_cell 63 = .ok (.new 102, 3) := by decide +kernel
theorem dX2_cell_66 : decode cX2_cell 66 = .ok (.dup, 1) := by decide +kernel
theorem dX2_cell_67 : decode cX2_cell 67 = .ok (.invokespecial 104, 3) := by decide +kernel
theorem dX2_cell_70 : decode cX2_cell 70 = .ok (.athrow, 1) := by decide +kernel
theorem dX2_cell_71 : decode cX2_cell 71 = .ok (.iload_n 3, 1) := by decide +kernel
theorem dX2_cell_72 : decode cX2_cell 72 = .ok (.lookupswitch 44 #[(0, 28), (1, 36)], 28) := by decide +kernel
theorem dX2_cell_100 : decode cX2_cell 100 = .ok (.aload 4, 2) := by decide +kernel
theorem dX2_cell_102 : decode cX2_cell 102 = .ok (.getfield 95, 3) := by decide +kernel
theorem dX2_cell_105 : decode cX2_cell 105 = .ok (.iload_n 2, 1) := by decide +kernel
theorem dX2_cell_106 : decode cX2_cell 106 = .ok (.iaload, 1) := by decide +kernel
theorem dX2_cell_107 : decode cX2_cell 107 = .ok (.ireturn, 1) := by decide +kernel
theorem dX2_cell_108 : decode cX2_cell 108 = .ok (.aload 4, 2) := by decide +kernel
theorem dX2_cell_110 : decode cX2_cell 110 = .ok (.getfield 98, 3) := by decide +kernel
theorem dX2_cell_113 : decode cX2_cell 113 = .ok (.iload_n 2, 1) := by decide +kernel
theorem dX2_cell_114 : decode cX2_cell 114 = .ok (.iaload, 1) := by decide +kernel
theorem dX2_cell_115 : decode cX2_cell 115 = .ok (.ireturn, 1) := by decide +kernel
theorem dX2_cell_116 : decode cX2_cell 116 = .ok (.aload 4, 2) := by decide +kernel
theorem dX2_cell_118 : decode cX2_cell 118 = .ok (.getfield 95, 3) := by decide +kernel
theorem dX2_cell_121 : decode cX2_cell 121 = .ok (.iload_n 2, 1) := by decide +kernel
theorem dX2_cell_122 : decode cX2_cell 122 = .ok (.iaload, 1) := by decide +kernel
theorem dX2_cell_123 : decode cX2_cell 123 = .ok (.iconst 3, 1) := by decide +kernel
theorem dX2_cell_124 : decode cX2_cell 124 = .ok (.if_icmp .ne 13, 3) := by decide +kernel
theorem dX2_cell_127 : decode cX2_cell 127 = .ok (.aload 4, 2) := by decide +kernel
theorem dX2_cell_129 : decode cX2_cell 129 = .ok (.getfield 105, 3) := by decide +kernel
theorem dX2_cell_132 : decode cX2_cell 132 = .ok (.iload_n 2, 1) := by decide +kernel
theorem dX2_cell_133 : decode cX2_cell 133 = .ok (.iaload, 1) := by decide +kernel
theorem dX2_cell_134 : decode cX2_cell 134 = .ok (.goto 4, 3) := by decide +kernel
theorem dX2_cell_137 : decode cX2_cell 137 = .ok (.iconst (-1), 1) := by decide +kernel
theorem dX2_cell_138 : decode cX2_cell 138 = .ok (.ireturn, 1) := by decide +kernel
theorem dX2_entry_0 : decode cX2_entry 0 = .ok (.iload_n 1, 1) := by decide +kernel
theorem dX2_entry_1 : decode cX2_entry 1 = .ok (.ifCond .lt 23, 3) := by decide +kernel
theorem dX2_entry_4 : decode cX2_entry 4 = .ok (.iload_n 1, 1) := by decide +kernel
theorem dX2_entry_5 : decode cX2_entry 5 = .ok (.aload_n 0, 1) := by decide +kernel
theorem dX2_entry_6 : decode cX2_entry 6 = .ok (.getfield 20, 3) := by decide +kernel
theorem dX2_entry_9 : decode cX2_entry 9 = .ok (.getfield 108, 3) := by decide +kernel
theorem dX2_entry_12 : decode cX2_entry 12 = .ok (.if_icmp .ge 12, 3) := by decide +kernel
theorem dX2_entry_15 : decode cX2_entry 15 = .ok (.iload_n 2, 1) := by decide +kernel
theorem dX2_entry_16 : decode cX2_entry 16 = .ok (.ifCond .lt 8, 3) := by decide +kernel
theorem dX2_entry_19 : decode cX2_entry 19 = .ok (.iload_n 2, 1) := by decide +kernel
theorem dX2_entry_20 : decode cX2_entry 20 = .ok (.iconst 1, 1) := by decide +kernel
theorem dX2_entry_21 : decode cX2_entry 21 = .ok (.if_icmp .le 11, 3) := by decide +kernel
theorem dX2_entry_24 : decode cX2_entry 24 = .ok (.new 102, 3) := by decide +kernel
theorem dX2_entry_27 : decode cX2_entry 27 = .ok (.dup, 1) := by decide +kernel
theorem dX2_entry_28 : decode cX2_entry 28 = .ok (.invokespecial 104, 3) := by decide +kernel
theorem dX2_entry_31 : decode cX2_entry 31 = .ok (.athrow, 1) := by decide +kernel
theorem dX2_entry_32 : decode cX2_entry 32 = .ok (.iload_n 2, 1) := by decide +kernel
theorem dX2_entry_33 : decode cX2_entry 33 = .ok (.ifCond .ne 15, 3) := by decide +kernel
theorem dX2_entry_36 : decode cX2_entry 36 = .ok (.aload_n 0, 1) := by decide +kernel
theorem dX2_entry_37 : decode cX2_entry 37 = .ok (.getfield 20, 3) := by decide +kernel
theorem dX2_entry_40 : decode cX2_entry 40 = .ok (.getfield 111, 3) := by decide +kernel
theorem dX2_entry_43 : decode cX2_entry 43 = .ok (.iload_n 1, 1) := by decide +kernel
theorem dX2_entry_44 : decode cX2_entry 44 = .ok (.iaload, 1) := by decide +kernel
theorem dX2_entry_45 : decode cX2_entry 45 = .ok (.goto 12, 3) := by decide +kernel
theorem dX2_entry_48 : decode cX2_entry 48 = .ok (.aload_n 0, 1) := by decide +kernel
theorem dX2_entry_49 : decode cX2_entry 49 = .ok (.getfield 20, 3) := by decide +kernel
theorem dX2_entry_52 : decode cX2_entry 52 = .ok (.getfield 114, 3) := by decide +kernel
theorem dX2_entry_55 : decode cX2_entry 55 = .ok (.iload_n 1, 1) := by decide +kernel
theorem dX2_entry_56 : decode cX2_entry 56 = .ok (.iaload, 1) := by decide +kernel
theorem dX2_entry_57 : decode cX2_entry 57 = .ok (.ireturn, 1) := by decide +kernel
theorem dX2_count_0 : decode cX2_count 0 = .ok (.iload_n 1, 1) := by decide +kernel
theorem dX2_count_1 : decode cX2_count 1 = .ok (.tableswitch 155 0 12 #[67, 75, 88, 96, 104, 109, 117, 125, 130, 135, 140, 145, 150], 67) := by decide +kernel
theorem dX2_count_68 : decode cX2_count 68 = .ok (.aload_n 0, 1) := by decide +kernel
theorem dX2_count_69 : decode cX2_count 69 = .ok (.getfield 36, 3) := by decide +kernel
theorem dX2_count_72 : decode cX2_count 72 = .ok (.getfield 88, 3) := by decide +kernel
theorem dX2_count_75 : decode cX2_count 75 = .ok (.ireturn, 1) := by decide +kernel
theorem dX2_count_76 : decode cX2_count 76 = .ok (.aload_n 0, 1) := by decide +kernel
theorem dX2_count_77 : decode cX2_count 77 = .ok (.getfield 71, 3) := by decide +kernel
theorem dX2_count_80 : decode cX2_count 80 = .ok (.ifCond .eq 7, 3) := by decide +kernel
theorem dX2_count_83 : decode cX2_count 83 = .ok (.iconst 1, 1) := by decide +kernel
theorem dX2_count_84 : decode cX2_count 84 = .ok (.goto 4, 3) := by decide +kernel
theorem dX2_count_87 : decode cX2_count 87 = .ok (.iconst 0, 1) := by decide +kernel
theorem dX2_count_88 : decode cX2_count 88 = .ok (.ireturn, 1) := by decide +kernel
theorem dX2_count_89 : decode cX2_count 89 = .ok (.aload_n 0, 1) := by decide +kernel
theorem dX2_count_90 : decode cX2_count 90 = .ok (.getfield 36, 3) := by decide +kernel
theorem dX2_count_93 : decode cX2_count 93 = .ok (.getfield 78, 3) := by decide +kernel
theorem dX2_count_96 : decode cX2_count 96 = .ok (.ireturn, 1) := by decide +kernel
theorem dX2_count_97 : decode cX2_count 97 = .ok (.aload_n 0, 1) := by decide +kernel
theorem dX2_count_98 : decode cX2_count 98 = .ok (.getfield 40, 3) := by decide +kernel
theorem dX2_count_101 : decode cX2_count 101 = .ok (.getfield 78, 3) := by decide +kernel
theorem dX2_count_104 : decode cX2_count 104 = .ok (.ireturn, 1) := by decide +kernel
theorem dX2_count_105 : decode cX2_count 105 = .ok (.aload_n 0, 1) := by decide +kernel
theorem dX2_count_106 : decode cX2_count 106 = .ok (.getfield 117, 3) := by decide +kernel
theorem dX2_count_109 : decode cX2_count 109 = .ok (.ireturn, 1) := by decide +kernel
theorem dX2_count_110 : decode cX2_count 110 = .ok (.aload_n 0, 1) := by decide +kernel
theorem dX2_count_111 : decode cX2_count 111 = .ok (.getfield 20, 3) := by decide +kernel
theorem dX2_count_114 : decode cX2_count 114 = .ok (.getfield 108, 3) := by decide +kernel
theorem dX2_count_117 : decode cX2_count 117 = .ok (.ireturn, 1) := by decide +kernel
theorem dX2_count_118 : decode cX2_count 118 = .ok (.aload_n 0, 1) := by decide +kernel
theorem dX2_count_119 : decode cX2_count 119 = .ok (.getfield 20, 3) := by decide +kernel
theorem dX2_count_122 : decode cX2_count 122 = .ok (.getfield 120, 3) := by decide +kernel
theorem dX2_count_125 : decode cX2_count 125 = .ok (.ireturn, 1) := by decide +kernel
theorem dX2_count_126 : decode cX2_count 126 = .ok (.aload_n 0, 1) := by decide +kernel
theorem dX2_count_127 : decode cX2_count 127 = .ok (.getfield 123, 3) := by decide +kernel
theorem dX2_count_130 : decode cX2_count 130 = .ok (.ireturn, 1) := by decide +kernel
theorem dX2_count_131 : decode cX2_count 131 = .ok (.aload_n 0, 1) := by decide +kernel
theorem dX2_count_132 : decode cX2_count 132 = .ok (.getfield 126, 3) := by decide +kernel
theorem dX2_count_135 : decode cX2_count 135 = .ok (.ireturn, 1) := by decide +kernel
theorem dX2_count_136 : decode cX2_count 136 = .ok (.aload_n 0, 1) := by decide +kernel
theorem dX2_count_137 : decode cX2_count 137 = .ok (.getfield 129, 3) := by decide +kernel
theorem dX2_count_140 : decode cX2_count 140 = .ok (.ireturn, 1) := by decide +kernel
theorem dX2_count_141 : decode cX2_count 141 = .ok (.aload_n 0, 1) := by decide +kernel
theorem dX2_count_142 : decode cX2_count 142 = .ok (.getfield 132, 3) := by decide +kernel
theorem dX2_count_145 : decode cX2_count 145 = .ok (.ireturn, 1) := by decide +kernel
theorem dX2_count_146 : decode cX2_count 146 = .ok (.aload_n 0, 1) := by decide +kernel
theorem dX2_count_147 : decode cX2_count 147 = .ok (.getfield 68, 3) := by decide +kernel
theorem dX2_count_150 : decode cX2_count 150 = .ok (.ireturn, 1) := by decide +kernel
theorem dX2_count_151 : decode cX2_count 151 = .ok (.aload_n 0, 1) := by decide +kernel
theorem dX2_count_152 : decode cX2_count 152 = .ok (.getfield 24, 3) := by decide +kernel
theorem dX2_count_155 : decode cX2_count 155 = .ok (.ireturn, 1) := by decide +kernel
theorem dX2_count_156 : decode cX2_count 156 = .ok (.iconst (-1), 1) := by decide +kernel
theorem dX2_count_157 : decode cX2_count 157 = .ok (.ireturn, 1) := by decide +kernel
theorem dX2_isRoot_0 : decode cX2_isRoot 0 = .ok (.iload_n 0, 1) := by decide +kernel
theorem dX2_isRoot_1 : decode cX2_isRoot 1 = .ok (.ifCond .lt 13, 3) := by decide +kernel
theorem dX2_isRoot_4 : decode cX2_isRoot 4 = .ok (.iload_n 0, 1) := by decide +kernel
theorem dX2_isRoot_5 : decode cX2_isRoot 5 = .ok (.bipush 16, 2) := by decide +kernel
theorem dX2_isRoot_7 : decode cX2_isRoot 7 = .ok (.if_icmp .ge 7, 3) := by decide +kernel
theorem dX2_isRoot_10 : decode cX2_isRoot 10 = .ok (.iconst 1, 1) := by decide +kernel
theorem dX2_isRoot_11 : decode cX2_isRoot 11 = .ok (.goto 4, 3) := by decide +kernel
theorem dX2_isRoot_14 : decode cX2_isRoot 14 = .ok (.iconst 0, 1) := by decide +kernel
theorem dX2_isRoot_15 : decode cX2_isRoot 15 = .ok (.ireturn, 1) := by decide +kernel
theorem dX2_hasField_0 : decode cX2_hasField 0 = .ok (.aload_n 0, 1) := by decide +kernel
theorem dX2_hasField_1 : decode cX2_hasField 1 = .ok (.getfield 9, 3) := by decide +kernel
theorem dX2_hasField_4 : decode cX2_hasField 4 = .ok (.iload_n 1, 1) := by decide +kernel
theorem dX2_hasField_5 : decode cX2_hasField 5 = .ok (.baload, 1) := by decide +kernel
theorem dX2_hasField_6 : decode cX2_hasField 6 = .ok (.ifCond .eq 29, 3) := by decide +kernel
theorem dX2_hasField_9 : decode cX2_hasField 9 = .ok (.iload_n 2, 1) := by decide +kernel
theorem dX2_hasField_10 : decode cX2_hasField 10 = .ok (.ifCond .lt 25, 3) := by decide +kernel
theorem dX2_hasField_13 : decode cX2_hasField 13 = .ok (.iload_n 2, 1) := by decide +kernel
theorem dX2_hasField_14 : decode cX2_hasField 14 = .ok (.aload_n 0, 1) := by decide +kernel
theorem dX2_hasField_15 : decode cX2_hasField 15 = .ok (.getfield 36, 3) := by decide +kernel
theorem dX2_hasField_18 : decode cX2_hasField 18 = .ok (.getfield 98, 3) := by decide +kernel
theorem dX2_hasField_21 : decode cX2_hasField 21 = .ok (.aload_n 0, 1) := by decide +kernel
theorem dX2_hasField_22 : decode cX2_hasField 22 = .ok (.getfield 13, 3) := by decide +kernel
theorem dX2_hasField_25 : decode cX2_hasField 25 = .ok (.iload_n 1, 1) := by decide +kernel
theorem dX2_hasField_26 : decode cX2_hasField 26 = .ok (.iaload, 1) := by decide +kernel
theorem dX2_hasField_27 : decode cX2_hasField 27 = .ok (.iaload, 1) := by decide +kernel
theorem dX2_hasField_28 : decode cX2_hasField 28 = .ok (.if_icmp .ge 7, 3) := by decide +kernel
theorem dX2_hasField_31 : decode cX2_hasField 31 = .ok (.iconst 1, 1) := by decide +kernel
theorem dX2_hasField_32 : decode cX2_hasField 32 = .ok (.goto 4, 3) := by decide +kernel
theorem dX2_hasField_35 : decode cX2_hasField 35 = .ok (.iconst 0, 1) := by decide +kernel
theorem dX2_hasField_36 : decode cX2_hasField 36 = .ok (.ireturn, 1) := by decide +kernel
theorem dX2_setRoot_0 : decode cX2_setRoot 0 = .ok (.aload_n 0, 1) := by decide +kernel
theorem dX2_setRoot_1 : decode cX2_setRoot 1 = .ok (.getfield 9, 3) := by decide +kernel
theorem dX2_setRoot_4 : decode cX2_setRoot 4 = .ok (.iload_n 1, 1) := by decide +kernel
theorem dX2_setRoot_5 : decode cX2_setRoot 5 = .ok (.iload_n 2, 1) := by decide +kernel
theorem dX2_setRoot_6 : decode cX2_setRoot 6 = .ok (.bastore, 1) := by decide +kernel
theorem dX2_setRoot_7 : decode cX2_setRoot 7 = .ok (.aload_n 0, 1) := by decide +kernel
theorem dX2_setRoot_8 : decode cX2_setRoot 8 = .ok (.getfield 13, 3) := by decide +kernel
theorem dX2_setRoot_11 : decode cX2_setRoot 11 = .ok (.iload_n 1, 1) := by decide +kernel
theorem dX2_setRoot_12 : decode cX2_setRoot 12 = .ok (.iload_n 3, 1) := by decide +kernel
theorem dX2_setRoot_13 : decode cX2_setRoot 13 = .ok (.iastore, 1) := by decide +kernel
theorem dX2_setRoot_14 : decode cX2_setRoot 14 = .ok (.return_, 1) := by decide +kernel
set_option maxRecDepth 20000 in
theorem ggX2_makeRoom_X1_hasRoom : GoodIn wsX2_makeRoom wsX1_hasRoom := goodIn_r _ [8, 9, 10, 78, 79, 80, 81, 82] (by decide +kernel) (by decide +kernel)
set_option maxRecDepth 20000 in
theorem gX2_makeRoom_X1_hasRoom_n57 : GoodIn wsX2_makeRoom (wsX1_hasRoom) := ggX2_makeRoom_X1_hasRoom
set_option maxRecDepth 20000 in
theorem ggX2_makeRoom_X2_work : GoodIn wsX2_makeRoom wsX2_work := goodIn_r _ [15, 1, 4, 16, 17, 18, 19, 20, 21, 22, 23, 24, 25, 14, 26, 27, 28, 29, 30, 31, 32, 33, 34, 2, 35, 6, 36, 37, 10, 38, 39, 40, 41, 42, 43, 44, 45, 46, 47, 48, 49, 50, 51, 52, 53, 54, 55, 56, 57, 58, 59, 60, 61, 62, 63, 64, 65, 66, 67, 68, 69, 70, 71, 72, 73, 74, 75, 76, 77, 83, 84, 85, 86, 78, 79, 80, 81, 82] (by decide +kernel) (by decide +kernel)
set_option maxRecDepth 20000 in
theorem gX2_makeRoom_X2_work : GoodIn wsX2_makeRoom (wsV RX2 75 RX2 yX2_work wsX2_work) := goodIn_app (goodIn_of _ (by decide +kernel)) ggX2_makeRoom_X2_work
theorem dX2_makeRoom_0 : decode cX2_makeRoom 0 = .ok (.aload_n 0, 1) := by decide +kernel
theorem dX2_makeRoom_1 : decode cX2_makeRoom 1 = .ok (.getfield 71, 3) := by decide +kernel
theorem dX2_makeRoom_4 : decode cX2_makeRoom 4 = .ok (.ifCond .eq 30, 3) := by decide +kernel
theorem dX2_makeRoom_7 : decode cX2_makeRoom 7 = .ok (.aload_n 0, 1) := by decide +kernel
theorem dX2_makeRoom_8 : decode cX2_makeRoom 8 = .ok (.getfield 36, 3) := by decide +kernel
theorem dX2_makeRoom_11 : decode cX2_makeRoom 11 = .ok (.iload_n 1, 1) := by decide +kernel
theorem dX2_makeRoom_12 : decode cX2_makeRoom 12 = .ok (.invokevirtual 57, 3) := by decide +kernel
theorem dX2_makeRoom_15 : decode cX2_makeRoom 15 = .ok (.ifCond .ne 19, 3) := by decide +kernel
theorem dX2_makeRoom_18 : decode cX2_makeRoom 18 = .ok (.aload_n 0, 1) := by decide +kernel
theorem dX2_makeRoom_19 : decode cX2_makeRoom 19 = .ok (.dup, 1) := by decide +kernel
theorem dX2_makeRoom_20 : decode cX2_makeRoom 20 = .ok (.getfield 126, 3) := by decide +kernel
theorem dX2_makeRoom_23 : decode cX2_makeRoom 23 = .ok (.iconst 1, 1) := by decide +kernel
theorem dX2_makeRoom_24 : decode cX2_makeRoom 24 = .ok (.iadd, 1) := by decide +kernel
theorem dX2_makeRoom_25 : decode cX2_makeRoom 25 = .ok (.putfield 126, 3) := by decide +kernel
theorem dX2_makeRoom_28 : decode cX2_makeRoom 28 = .ok (.aload_n 0, 1) := by decide +kernel
theorem dX2_makeRoom_29 : decode cX2_makeRoom 29 = .ok (.ldc 101, 2) := by decide +kernel
theorem dX2_makeRoom_31 : decode cX2_makeRoom 31 = .ok (.invokevirtual 75, 3) := by decide +kernel
theorem dX2_makeRoom_34 : decode cX2_makeRoom 34 = .ok (.aload_n 0, 1) := by decide +kernel
theorem dX2_makeRoom_35 : decode cX2_makeRoom 35 = .ok (.getfield 36, 3) := by decide +kernel
theorem dX2_makeRoom_38 : decode cX2_makeRoom 38 = .ok (.iload_n 1, 1) := by decide +kernel
theorem dX2_makeRoom_39 : decode cX2_makeRoom 39 = .ok (.invokevirtual 57, 3) := by decide +kernel
theorem dX2_makeRoom_42 : decode cX2_makeRoom 42 = .ok (.ifCond .ne 24, 3) := by decide +kernel
theorem dX2_makeRoom_45 : decode cX2_makeRoom 45 = .ok (.aload_n 0, 1) := by decide +kernel
theorem dX2_makeRoom_46 : decode cX2_makeRoom 46 = .ok (.iconst 1, 1) := by decide +kernel
theorem dX2_makeRoom_47 : decode cX2_makeRoom 47 = .ok (.putfield 71, 3) := by decide +kernel
theorem dX2_makeRoom_50 : decode cX2_makeRoom 50 = .ok (.aload_n 0, 1) := by decide +kernel
theorem dX2_makeRoom_51 : decode cX2_makeRoom 51 = .ok (.dup, 1) := by decide +kernel
theorem dX2_makeRoom_52 : decode cX2_makeRoom 52 = .ok (.getfield 126, 3) := by decide +kernel
theorem dX2_makeRoom_55 : decode cX2_makeRoom 55 = .ok (.iconst 1, 1) := by decide +kernel
theorem dX2_makeRoom_56 : decode cX2_makeRoom 56 = .ok (.iadd, 1) := by decide +kernel
theorem dX2_makeRoom_57 : decode cX2_makeRoom 57 = .ok (.putfield 126, 3) := by decide +kernel
theorem dX2_makeRoom_60 : decode cX2_makeRoom 60 = .ok (.aload_n 0, 1) := by decide +kernel
theorem dX2_makeRoom_61 : decode cX2_makeRoom 61 = .ok (.ldc 101, 2) := by decide +kernel
theorem dX2_makeRoom_63 : decode cX2_makeRoom 63 = .ok (.invokevirtual 75, 3) := by decide +kernel
theorem dX2_makeRoom_66 : decode cX2_makeRoom 66 = .ok (.return_, 1) := by decide +kernel
set_option maxRecDepth 20000 in
theorem ggX2_change_X1_setCell : GoodIn wsX2_change wsX1_setCell := goodIn_r _ [9, 10, 11, 80, 81, 82, 83, 84] (by decide +kernel) (by decide +kernel)
set_option maxRecDepth 20000 in
theorem gX2_change_X1_setCell_n135 : GoodIn wsX2_change (wsX1_setCell) := ggX2_change_X1_setCell
set_option maxRecDepth 20000 in
theorem ggX2_change_X0_add : GoodIn wsX2_change wsX0_add := goodIn_r _ [15, 16, 17, 18, 19, 20, 21, 13, 22, 23, 85, 86, 87, 88] (by decide +kernel) (by decide +kernel)
set_option maxRecDepth 20000 in
theorem gX2_change_X0_add_n139 : GoodIn wsX2_change (wsX0_add) := ggX2_change_X0_add
set_option maxRecDepth 20000 in
theorem ggX2_change_X2_work : GoodIn wsX2_change wsX2_work := goodIn_r _ [28, 2, 29, 30, 3, 31, 32, 33, 34, 35, 36, 37, 38, 27, 39, 4, 40, 41, 42, 43, 44, 45, 46, 1, 6, 7, 8, 9, 10, 11, 47, 48, 49, 50, 51, 52, 53, 54, 55, 56, 57, 58, 59, 60, 61, 62, 63, 64, 20, 13, 21, 22, 16, 23, 65, 66, 67, 68, 69, 70, 71, 72, 73, 74, 75, 76, 77, 78, 79, 85, 86, 87, 88, 80, 81, 82, 83, 84] (by decide +kernel) (by decide +kernel)
set_option maxRecDepth 20000 in
theorem gX2_change_X2_work : GoodIn wsX2_change (wsV RX2 75 RX2 yX2_work wsX2_work) := goodIn_app (goodIn_of _ (by decide +kernel)) ggX2_change_X2_work
theorem dX2_change_0 : decode cX2_change 0 = .ok (.aload_n 0, 1) := by decide +kernel
theorem dX2_change_1 : decode cX2_change 1 = .ok (.getfield 36, 3) := by decide +kernel
theorem dX2_change_4 : decode cX2_change 4 = .ok (.iload_n 1, 1) := by decide +kernel
theorem dX2_change_5 : decode cX2_change 5 = .ok (.iconst 1, 1) := by decide +kernel
theorem dX2_change_6 : decode cX2_change 6 = .ok (.iadd, 1) := by decide +kernel
theorem dX2_change_7 : decode cX2_change 7 = .ok (.iload_n 2, 1) := by decide +kernel
theorem dX2_change_8 : decode cX2_change 8 = .ok (.iadd, 1) := by decide +kernel
theorem dX2_change_9 : decode cX2_change 9 = .ok (.iload_n 3, 1) := by decide +kernel
theorem dX2_change_10 : decode cX2_change 10 = .ok (.iload 4, 2) := by decide +kernel
theorem dX2_change_12 : decode cX2_change 12 = .ok (.invokevirtual 135, 3) := by decide +kernel
theorem dX2_change_15 : decode cX2_change 15 = .ok (.aload_n 0, 1) := by decide +kernel
theorem dX2_change_16 : decode cX2_change 16 = .ok (.getfield 71, 3) := by decide +kernel
theorem dX2_change_19 : decode cX2_change 19 = .ok (.ifCond .eq 25, 3) := by decide +kernel
theorem dX2_change_22 : decode cX2_change 22 = .ok (.aload_n 0, 1) := by decide +kernel
theorem dX2_change_23 : decode cX2_change 23 = .ok (.iconst 0, 1) := by decide +kernel
theorem dX2_change_24 : decode cX2_change 24 = .ok (.putfield 50, 3) := by decide +kernel
theorem dX2_change_27 : decode cX2_change 27 = .ok (.aload_n 0, 1) := by decide +kernel
theorem dX2_change_28 : decode cX2_change 28 = .ok (.getfield 20, 3) := by decide +kernel
theorem dX2_change_31 : decode cX2_change 31 = .ok (.iload_n 1, 1) := by decide +kernel
theorem dX2_change_32 : decode cX2_change 32 = .ok (.iload_n 2, 1) := by decide +kernel
theorem dX2_change_33 : decode cX2_change 33 = .ok (.invokevirtual 139, 3) := by decide +kernel
theorem dX2_change_36 : decode cX2_change 36 = .ok (.aload_n 0, 1) := by decide +kernel
theorem dX2_change_37 : decode cX2_change 37 = .ok (.aload_n 0, 1) := by decide +kernel
theorem dX2_change_38 : decode cX2_change 38 = .ok (.getfield 28, 3) := by decide +kernel
theorem dX2_change_41 : decode cX2_change 41 = .ok (.invokevirtual 75, 3) := by decide +kernel
theorem dX2_change_44 : decode cX2_change 44 = .ok (.return_, 1) := by decide +kernel
set_option maxRecDepth 20000 in
theorem ggX2_work_X2_step : GoodIn wsX2_work wsX2_step := goodIn_r _ [14, 15, 16, 17, 18, 19, 20, 21, 13, 22, 23, 24, 25, 26, 27, 28, 29, 30, 31, 32, 33, 34, 35, 36, 37, 38, 39, 40, 41, 42, 43, 44, 45, 46, 1, 47, 48, 49, 50, 51, 52, 53, 54, 55, 56, 57, 58, 59, 60, 61, 62, 63, 64, 65, 66, 67, 68, 69, 70, 71, 72, 73, 74, 75, 76, 77] (by decide +kernel) (by decide +kernel)
set_option maxRecDepth 20000 in
theorem gX2_work_X2_step : GoodIn wsX2_work (wsV RX2 142 RX2 yX2_step wsX2_step) := goodIn_app (goodIn_of _ (by decide +kernel)) ggX2_work_X2_step
theorem dX2_work_0 : decode cX2_work 0 = .ok (.iconst 0, 1) := by decide +kernel
theorem dX2_work_1 : decode cX2_work 1 = .ok (.istore_n 2, 1) := by decide +kernel
theorem dX2_work_2 : decode cX2_work 2 = .ok (.iconst 0, 1) := by decide +kernel
theorem dX2_work_3 : decode cX2_work 3 = .ok (.istore_n 3, 1) := by decide +kernel
theorem dX2_work_4 : decode cX2_work 4 = .ok (.aload_n 0, 1) := by decide +kernel
theorem dX2_work_5 : decode cX2_work 5 = .ok (.getfield 71, 3) := by decide +kernel
theorem dX2_work_8 : decode cX2_work 8 = .ok (.ifCond .eq 27, 3) := by decide +kernel
theorem dX2_work_11 : decode cX2_work 11 = .ok (.iload_n 2, 1) := by decide +kernel
theorem dX2_work_12 : decode cX2_work 12 = .ok (.iload_n 1, 1) := by decide +kernel
theorem dX2_work_13 : decode cX2_work 13 = .ok (.if_icmp .ge 22, 3) := by decide +kernel
theorem dX2_work_16 : decode cX2_work 16 = .ok (.iload_n 3, 1) := by decide +kernel
theorem dX2_work_17 : decode cX2_work 17 = .ok (.ldc 101, 2) := by decide +kernel
theorem dX2_work_19 : decode cX2_work 19 = .ok (.if_icmp .ge 16, 3) := by decide +kernel
theorem dX2_work_22 : decode cX2_work 22 = .ok (.iload_n 2, 1) := by decide +kernel
theorem dX2_work_23 : decode cX2_work 23 = .ok (.aload_n 0, 1) := by decide +kernel
theorem dX2_work_24 : decode cX2_work 24 = .ok (.invokevirtual 142, 3) := by decide +kernel
theorem dX2_work_27 : decode cX2_work 27 = .ok (.iadd, 1) := by decide +kernel
theorem dX2_work_28 : decode cX2_work 28 = .ok (.istore_n 2, 1) := by decide +kernel
theorem dX2_work_29 : decode cX2_work 29 = .ok (.iinc 3 1, 3) := by decide +kernel
theorem dX2_work_32 : decode cX2_work 32 = .ok (.goto (-28), 3) := by decide +kernel
theorem dX2_work_35 : decode cX2_work 35 = .ok (.aload_n 0, 1) := by decide +kernel
theorem dX2_work_36 : decode cX2_work 36 = .ok (.dup, 1) := by decide +kernel
theorem dX2_work_37 : decode cX2_work 37 = .ok (.getfield 129, 3) := by decide +kernel
theorem dX2_work_40 : decode cX2_work 40 = .ok (.iload_n 2, 1) := by decide +kernel
theorem dX2_work_41 : decode cX2_work 41 = .ok (.iadd, 1) := by decide +kernel
theorem dX2_work_42 : decode cX2_work 42 = .ok (.putfield 129, 3) := by decide +kernel
theorem dX2_work_45 : decode cX2_work 45 = .ok (.aload_n 0, 1) := by decide +kernel
theorem dX2_work_46 : decode cX2_work 46 = .ok (.dup, 1) := by decide +kernel
theorem dX2_work_47 : decode cX2_work 47 = .ok (.getfield 50, 3) := by decide +kernel
theorem dX2_work_50 : decode cX2_work 50 = .ok (.iload_n 2, 1) := by decide +kernel
theorem dX2_work_51 : decode cX2_work 51 = .ok (.iadd, 1) := by decide +kernel
theorem dX2_work_52 : decode cX2_work 52 = .ok (.putfield 50, 3) := by decide +kernel
theorem dX2_work_55 : decode cX2_work 55 = .ok (.aload_n 0, 1) := by decide +kernel
theorem dX2_work_56 : decode cX2_work 56 = .ok (.aload_n 0, 1) := by decide +kernel
theorem dX2_work_57 : decode cX2_work 57 = .ok (.getfield 132, 3) := by decide +kernel
theorem dX2_work_60 : decode cX2_work 60 = .ok (.aload_n 0, 1) := by decide +kernel
theorem dX2_work_61 : decode cX2_work 61 = .ok (.getfield 50, 3) := by decide +kernel
theorem dX2_work_64 : decode cX2_work 64 = .ok (.invokestatic 146, 3) := by decide +kernel
theorem dX2_work_67 : decode cX2_work 67 = .ok (.putfield 132, 3) := by decide +kernel
theorem dX2_work_70 : decode cX2_work 70 = .ok (.return_, 1) := by decide +kernel
set_option maxRecDepth 20000 in
theorem ggX2_step_X2_takeEntry : GoodIn wsX2_step wsX2_takeEntry := goodIn_r _ [9, 1, 10, 3, 11, 12, 13, 14, 15, 16, 17, 18, 19, 8, 20, 21, 22, 23, 24, 42, 43, 44, 45, 46, 47, 48, 49, 50, 51, 52, 53, 54, 55, 56, 57, 58, 59, 60, 61, 62, 63, 64, 65] (by decide +kernel) (by decide +kernel)
set_option maxRecDepth 20000 in
theorem gX2_step_X2_takeEntry : GoodIn wsX2_step (wsV RX2 152 RX2 yX2_takeEntry wsX2_takeEntry) := goodIn_app (goodIn_of _ (by decide +kernel)) ggX2_step_X2_takeEntry
set_option maxRecDepth 20000 in
theorem ggX2_step_X2_forward : GoodIn wsX2_step wsX2_forward := goodIn_r _ [20, 3, 10, 21, 22, 23, 8, 24, 11, 12, 13, 14, 15, 16, 42, 43, 44, 45, 46, 47, 48, 49, 50, 51, 52, 53, 54, 55, 56, 61, 62, 63, 64, 65] (by decide +kernel) (by decide +kernel)
set_option maxRecDepth 20000 in
theorem gX2_step_X2_forward : GoodIn wsX2_step (wsV RX2 155 RX2 yX2_forward wsX2_forward) := goodIn_app (goodIn_of _ (by decide +kernel)) ggX2_step_X2_forward
set_option maxRecDepth 20000 in
theorem ggX2_step_X2_rootWithoutReplica : GoodIn wsX2_step wsX2_rootWithoutReplica := goodIn_r _ [28, 29, 10, 4, 42, 43, 44, 45, 46, 47, 48, 49, 50, 51, 52, 53, 54, 55, 56, 61, 62, 63, 64, 65] (by decide +kernel) (by decide +kernel)
set_option maxRecDepth 20000 in
theorem gX2_step_X2_rootWithoutReplica : GoodIn wsX2_step (wsV RX2 158 RX2 yX2_rootWithoutReplica wsX2_rootWithoutReplica) := goodIn_app (goodIn_of _ (by decide +kernel)) ggX2_step_X2_rootWithoutReplica
set_option maxRecDepth 20000 in
theorem ggX2_step_X2_replicate : GoodIn wsX2_step wsX2_replicate := goodIn_r _ [24, 10, 3, 42, 43, 44, 45, 46, 47, 48, 49, 50, 51, 52, 53, 54, 55, 56, 61, 62, 63, 64, 65] (by decide +kernel) (by decide +kernel)
set_option maxRecDepth 20000 in
theorem gX2_step_X2_replicate : GoodIn wsX2_step (wsV RX2 161 RX2 yX2_replicate wsX2_replicate) := goodIn_app (goodIn_of _ (by decide +kernel)) ggX2_step_X2_replicate
set_option maxRecDepth 20000 in
theorem ggX2_step_X2_flip : GoodIn wsX2_step wsX2_flip := goodIn_r _ [33, 29, 4, 10, 3, 34, 2, 1, 35, 36, 37, 38, 39, 40, 41, 42, 43, 44, 45, 46, 47, 48, 49, 50, 51, 52, 53, 54, 55, 56, 61, 62, 63, 64, 65, 57, 58, 59, 60] (by decide +kernel) (by decide +kernel)
set_option maxRecDepth 20000 in
theorem gX2_step_X2_flip : GoodIn wsX2_step (wsV RX2 164 RX2 yX2_flip wsX2_flip) := goodIn_app (goodIn_of _ (by decide +kernel)) ggX2_step_X2_flip
theorem dX2_step_0 : decode cX2_step 0 = .ok (.aload_n 0, 1) := by decide +kernel
theorem dX2_step_1 : decode cX2_step 1 = .ok (.getfield 20, 3) := by decide +kernel
theorem dX2_step_4 : decode cX2_step 4 = .ok (.getfield 120, 3) := by decide +kernel
theorem dX2_step_7 : decode cX2_step 7 = .ok (.aload_n 0, 1) := by decide +kernel
theorem dX2_step_8 : decode cX2_step 8 = .ok (.getfield 20, 3) := by decide +kernel
theorem dX2_step_11 : decode cX2_step 11 = .ok (.getfield 108, 3) := by decide +kernel
theorem dX2_step_14 : decode cX2_step 14 = .ok (.if_icmp .ge 8, 3) := by decide +kernel
theorem dX2_step_17 : decode cX2_step 17 = .ok (.aload_n 0, 1) := by decide +kernel
theorem dX2_step_18 : decode cX2_step 18 = .ok (.invokevirtual 152, 3) := by decide +kernel
theorem dX2_step_21 : decode cX2_step 21 = .ok (.ireturn, 1) := by decide +kernel
theorem dX2_step_22 : decode cX2_step 22 = .ok (.aload_n 0, 1) := by decide +kernel
theorem dX2_step_23 : decode cX2_step 23 = .ok (.getfield 117, 3) := by decide +kernel
theorem dX2_step_26 : decode cX2_step 26 = .ok (.aload_n 0, 1) := by decide +kernel
theorem dX2_step_27 : decode cX2_step 27 = .ok (.getfield 40, 3) := by decide +kernel
theorem dX2_step_30 : decode cX2_step 30 = .ok (.getfield 78, 3) := by decide +kernel
theorem dX2_step_33 : decode cX2_step 33 = .ok (.if_icmp .ge 26, 3) := by decide +kernel
theorem dX2_step_36 : decode cX2_step 36 = .ok (.aload_n 0, 1) := by decide +kernel
theorem dX2_step_37 : decode cX2_step 37 = .ok (.dup, 1) := by decide +kernel
theorem dX2_step_38 : decode cX2_step 38 = .ok (.getfield 117, 3) := by decide +kernel
theorem dX2_step_41 : decode cX2_step 41 = .ok (.iconst 1, 1) := by decide +kernel
theorem dX2_step_42 : decode cX2_step 42 = .ok (.iadd, 1) := by decide +kernel
theorem dX2_step_43 : decode cX2_step 43 = .ok (.putfield 117, 3) := by decide +kernel
theorem dX2_step_46 : decode cX2_step 46 = .ok (.iconst 1, 1) := by decide +kernel
theorem dX2_step_47 : decode cX2_step 47 = .ok (.aload_n 0, 1) := by decide +kernel
theorem dX2_step_48 : decode cX2_step 48 = .ok (.aload_n 0, 1) := by decide +kernel
theorem dX2_step_49 : decode cX2_step 49 = .ok (.getfield 117, 3) := by decide +kernel
theorem dX2_step_52 : decode cX2_step 52 = .ok (.iconst 1, 1) := by decide +kernel
theorem dX2_step_53 : decode cX2_step 53 = .ok (.isub, 1) := by decide +kernel
theorem dX2_step_54 : decode cX2_step 54 = .ok (.invokevirtual 155, 3) := by decide +kernel
theorem dX2_step_57 : decode cX2_step 57 = .ok (.iadd, 1) := by decide +kernel
theorem dX2_step_58 : decode cX2_step 58 = .ok (.ireturn, 1) := by decide +kernel
theorem dX2_step_59 : decode cX2_step 59 = .ok (.aload_n 0, 1) := by decide +kernel
theorem dX2_step_60 : decode cX2_step 60 = .ok (.invokevirtual 158, 3) := by decide +kernel
theorem dX2_step_63 : decode cX2_step 63 = .ok (.istore_n 1, 1) := by decide +kernel
theorem dX2_step_64 : decode cX2_step 64 = .ok (.iload_n 1, 1) := by decide +kernel
theorem dX2_step_65 : decode cX2_step 65 = .ok (.iconst (-1), 1) := by decide +kernel
theorem dX2_step_66 : decode cX2_step 66 = .ok (.if_icmp .eq 14, 3) := by decide +kernel
theorem dX2_step_69 : decode cX2_step 69 = .ok (.aload_n 0, 1) := by decide +kernel
theorem dX2_step_70 : decode cX2_step 70 = .ok (.aload_n 0, 1) := by decide +kernel
theorem dX2_step_71 : decode cX2_step 71 = .ok (.getfield 13, 3) := by decide +kernel
theorem dX2_step_74 : decode cX2_step 74 = .ok (.iload_n 1, 1) := by decide +kernel
theorem dX2_step_75 : decode cX2_step 75 = .ok (.iaload, 1) := by decide +kernel
theorem dX2_step_76 : decode cX2_step 76 = .ok (.invokevirtual 161, 3) := by decide +kernel
theorem dX2_step_79 : decode cX2_step 79 = .ok (.ireturn, 1) := by decide +kernel
theorem dX2_step_80 : decode cX2_step 80 = .ok (.aload_n 0, 1) := by decide +kernel
theorem dX2_step_81 : decode cX2_step 81 = .ok (.invokevirtual 164, 3) := by decide +kernel
theorem dX2_step_84 : decode cX2_step 84 = .ok (.bipush 16, 2) := by decide +kernel
theorem dX2_step_86 : decode cX2_step 86 = .ok (.ireturn, 1) := by decide +kernel
set_option maxRecDepth 20000 in
theorem ggX2_takeEntry_X1_setCell : GoodIn wsX2_takeEntry wsX1_setCell := goodIn_r _ [7, 8, 9, 38, 39, 40, 41, 42] (by decide +kernel) (by decide +kernel)
set_option maxRecDepth 20000 in
theorem gX2_takeEntry_X1_setCell_n135 : GoodIn wsX2_takeEntry (wsX1_setCell) := ggX2_takeEntry_X1_setCell
set_option maxRecDepth 20000 in
theorem ggX2_takeEntry_X2_forward : GoodIn wsX2_takeEntry wsX2_forward := goodIn_r _ [14, 3, 2, 15, 16, 17, 13, 18, 4, 5, 6, 7, 8, 9, 19, 20, 21, 22, 23, 24, 25, 26, 27, 28, 29, 30, 31, 32, 33, 38, 39, 40, 41, 42] (by decide +kernel) (by decide +kernel)
set_option maxRecDepth 20000 in
theorem gX2_takeEntry_X2_forward : GoodIn wsX2_takeEntry (wsV RX2 155 RX2 yX2_forward wsX2_forward) := goodIn_app (goodIn_of _ (by decide +kernel)) ggX2_takeEntry_X2_forward
theorem dX2_takeEntry_0 : decode cX2_takeEntry 0 = .ok (.aload_n 0, 1) := by decide +kernel
theorem dX2_takeEntry_1 : decode cX2_takeEntry 1 = .ok (.getfield 20, 3) := by decide +kernel
theorem dX2_takeEntry_4 : decode cX2_takeEntry 4 = .ok (.getfield 111, 3) := by decide +kernel
theorem dX2_takeEntry_7 : decode cX2_takeEntry 7 = .ok (.aload_n 0, 1) := by decide +kernel
theorem dX2_takeEntry_8 : decode cX2_takeEntry 8 = .ok (.getfield 20, 3) := by decide +kernel
theorem dX2_takeEntry_11 : decode cX2_takeEntry 11 = .ok (.getfield 120, 3) := by decide +kernel
theorem dX2_takeEntry_14 : decode cX2_takeEntry 14 = .ok (.iaload, 1) := by decide +kernel
theorem dX2_takeEntry_15 : decode cX2_takeEntry 15 = .ok (.istore_n 1, 1) := by decide +kernel
theorem dX2_takeEntry_16 : decode cX2_takeEntry 16 = .ok (.iconst 1, 1) := by decide +kernel
theorem dX2_takeEntry_17 : decode cX2_takeEntry 17 = .ok (.aload_n 0, 1) := by decide +kernel
theorem dX2_takeEntry_18 : decode cX2_takeEntry 18 = .ok (.getfield 20, 3) := by decide +kernel
theorem dX2_takeEntry_21 : decode cX2_takeEntry 21 = .ok (.getfield 114, 3) := by decide +kernel
theorem dX2_takeEntry_24 : decode cX2_takeEntry 24 = .ok (.aload_n 0, 1) := by decide +kernel
theorem dX2_takeEntry_25 : decode cX2_takeEntry 25 = .ok (.getfield 20, 3) := by decide +kernel
theorem dX2_takeEntry_28 : decode cX2_takeEntry 28 = .ok (.getfield 120, 3) := by decide +kernel
theorem dX2_takeEntry_31 : decode cX2_takeEntry 31 = .ok (.iaload, 1) := by decide +kernel
theorem dX2_takeEntry_32 : decode cX2_takeEntry 32 = .ok (.iadd, 1) := by decide +kernel
theorem dX2_takeEntry_33 : decode cX2_takeEntry 33 = .ok (.istore_n 2, 1) := by decide +kernel
theorem dX2_takeEntry_34 : decode cX2_takeEntry 34 = .ok (.aload_n 0, 1) := by decide +kernel
theorem dX2_takeEntry_35 : decode cX2_takeEntry 35 = .ok (.getfield 20, 3) := by decide +kernel
theorem dX2_takeEntry_38 : decode cX2_takeEntry 38 = .ok (.dup, 1) := by decide +kernel
theorem dX2_takeEntry_39 : decode cX2_takeEntry 39 = .ok (.getfield 120, 3) := by decide +kernel
theorem dX2_takeEntry_42 : decode cX2_takeEntry 42 = .ok (.iconst 1, 1) := by decide +kernel
theorem dX2_takeEntry_43 : decode cX2_takeEntry 43 = .ok (.iadd, 1) := by decide +kernel
theorem dX2_takeEntry_44 : decode cX2_takeEntry 44 = .ok (.putfield 120, 3) := by decide +kernel
theorem dX2_takeEntry_47 : decode cX2_takeEntry 47 = .ok (.aload_n 0, 1) := by decide +kernel
theorem dX2_takeEntry_48 : decode cX2_takeEntry 48 = .ok (.getfield 36, 3) := by decide +kernel
theorem dX2_takeEntry_51 : decode cX2_takeEntry 51 = .ok (.getfield 105, 3) := by decide +kernel
theorem dX2_takeEntry_54 : decode cX2_takeEntry 54 = .ok (.iload_n 1, 1) := by decide +kernel
theorem dX2_takeEntry_55 : decode cX2_takeEntry 55 = .ok (.iaload, 1) := by decide +kernel
theorem dX2_takeEntry_56 : decode cX2_takeEntry 56 = .ok (.istore_n 3, 1) := by decide +kernel
theorem dX2_takeEntry_57 : decode cX2_takeEntry 57 = .ok (.iload_n 3, 1) := by decide +kernel
theorem dX2_takeEntry_58 : decode cX2_takeEntry 58 = .ok (.iconst (-1), 1) := by decide +kernel
theorem dX2_takeEntry_59 : decode cX2_takeEntry 59 = .ok (.if_icmp .ne 5, 3) := by decide +kernel
theorem dX2_takeEntry_62 : decode cX2_takeEntry 62 = .ok (.iconst 1, 1) := by decide +kernel
theorem dX2_takeEntry_63 : decode cX2_takeEntry 63 = .ok (.ireturn, 1) := by decide +kernel
theorem dX2_takeEntry_64 : decode cX2_takeEntry 64 = .ok (.aload_n 0, 1) := by decide +kernel
theorem dX2_takeEntry_65 : decode cX2_takeEntry 65 = .ok (.getfield 40, 3) := by decide +kernel
theorem dX2_takeEntry_68 : decode cX2_takeEntry 68 = .ok (.iload_n 3, 1) := by decide +kernel
theorem dX2_takeEntry_69 : decode cX2_takeEntry 69 = .ok (.iload_n 2, 1) := by decide +kernel
theorem dX2_takeEntry_70 : decode cX2_takeEntry 70 = .ok (.iadd, 1) := by decide +kernel
theorem dX2_takeEntry_71 : decode cX2_takeEntry 71 = .ok (.aload_n 0, 1) := by decide +kernel
theorem dX2_takeEntry_72 : decode cX2_takeEntry 72 = .ok (.getfield 36, 3) := by decide +kernel
theorem dX2_takeEntry_75 : decode cX2_takeEntry 75 = .ok (.getfield 95, 3) := by decide +kernel
theorem dX2_takeEntry_78 : decode cX2_takeEntry 78 = .ok (.iload_n 1, 1) := by decide +kernel
theorem dX2_takeEntry_79 : decode cX2_takeEntry 79 = .ok (.iload_n 2, 1) := by decide +kernel
theorem dX2_takeEntry_80 : decode cX2_takeEntry 80 = .ok (.iadd, 1) := by decide +kernel
theorem dX2_takeEntry_81 : decode cX2_takeEntry 81 = .ok (.iaload, 1) := by decide +kernel
theorem dX2_takeEntry_82 : decode cX2_takeEntry 82 = .ok (.aload_n 0, 1) := by decide +kernel
theorem dX2_takeEntry_83 : decode cX2_takeEntry 83 = .ok (.getfield 36, 3) := by decide +kernel
theorem dX2_takeEntry_86 : decode cX2_takeEntry 86 = .ok (.getfield 98, 3) := by decide +kernel
theorem dX2_takeEntry_89 : decode cX2_takeEntry 89 = .ok (.iload_n 1, 1) := by decide +kernel
theorem dX2_takeEntry_90 : decode cX2_takeEntry 90 = .ok (.iload_n 2, 1) := by decide +kernel
theorem dX2_takeEntry_91 : decode cX2_takeEntry 91 = .ok (.iadd, 1) := by decide +kernel
theorem dX2_takeEntry_92 : decode cX2_takeEntry 92 = .ok (.iaload, 1) := by decide +kernel
theorem dX2_takeEntry_93 : decode cX2_takeEntry 93 = .ok (.invokevirtual 135, 3) := by decide +kernel
theorem dX2_takeEntry_96 : decode cX2_takeEntry 96 = .ok (.iconst 1, 1) := by decide +kernel
theorem dX2_takeEntry_97 : decode cX2_takeEntry 97 = .ok (.aload_n 0, 1) := by decide +kernel
theorem dX2_takeEntry_98 : decode cX2_takeEntry 98 = .ok (.iload_n 3, 1) := by decide +kernel
theorem dX2_takeEntry_99 : decode cX2_takeEntry 99 = .ok (.iload_n 2, 1) := by decide +kernel
theorem dX2_takeEntry_100 : decode cX2_takeEntry 100 = .ok (.iadd, 1) := by decide +kernel
theorem dX2_takeEntry_101 : decode cX2_takeEntry 101 = .ok (.invokevirtual 155, 3) := by decide +kernel
theorem dX2_takeEntry_104 : decode cX2_takeEntry 104 = .ok (.iadd, 1) := by decide +kernel
theorem dX2_takeEntry_105 : decode cX2_takeEntry 105 = .ok (.ireturn, 1) := by decide +kernel
set_option maxRecDepth 20000 in
theorem ggX2_forward_X2_replicate : GoodIn wsX2_forward wsX2_replicate := goodIn_r _ [7, 2, 1, 14, 15, 16, 17, 18, 19, 20, 21, 22, 23, 24, 25, 26, 27, 28, 29, 30, 31, 32, 33] (by decide +kernel) (by decide +kernel)
set_option maxRecDepth 20000 in
theorem gX2_forward_X2_replicate : GoodIn wsX2_forward (wsV RX2 161 RX2 yX2_replicate wsX2_replicate) := goodIn_app (goodIn_of _ (by decide +kernel)) ggX2_forward_X2_replicate
set_option maxRecDepth 20000 in
theorem ggX2_forward_X1_setCell : GoodIn wsX2_forward wsX1_setCell := goodIn_r _ [11, 12, 13, 29, 30, 31, 32, 33] (by decide +kernel) (by decide +kernel)
set_option maxRecDepth 20000 in
theorem gX2_forward_X1_setCell_n135 : GoodIn wsX2_forward (wsX1_setCell) := ggX2_forward_X1_setCell
theorem dX2_forward_0 : decode cX2_forward 0 = .ok (.aload_n 0, 1) := by decide +kernel
theorem dX2_forward_1 : decode cX2_forward 1 = .ok (.getfield 40, 3) := by decide +kernel
theorem dX2_forward_4 : decode cX2_forward 4 = .ok (.getfield 95, 3) := by decide +kernel
theorem dX2_forward_7 : decode cX2_forward 7 = .ok (.iload_n 1, 1) := by decide +kernel
theorem dX2_forward_8 : decode cX2_forward 8 = .ok (.iaload, 1) := by decide +kernel
theorem dX2_forward_9 : decode cX2_forward 9 = .ok (.iconst 1, 1) := by decide +kernel
theorem dX2_forward_10 : decode cX2_forward 10 = .ok (.aload_n 0, 1) := by decide +kernel
theorem dX2_forward_11 : decode cX2_forward 11 = .ok (.getfield 36, 3) := by decide +kernel
theorem dX2_forward_14 : decode cX2_forward 14 = .ok (.getfield 88, 3) := by decide +kernel
theorem dX2_forward_17 : decode cX2_forward 17 = .ok (.iadd, 1) := by decide +kernel
theorem dX2_forward_18 : decode cX2_forward 18 = .ok (.if_icmp .eq 5, 3) := by decide +kernel
theorem dX2_forward_21 : decode cX2_forward 21 = .ok (.iconst 0, 1) := by decide +kernel
theorem dX2_forward_22 : decode cX2_forward 22 = .ok (.ireturn, 1) := by decide +kernel
theorem dX2_forward_23 : decode cX2_forward 23 = .ok (.aload_n 0, 1) := by decide +kernel
theorem dX2_forward_24 : decode cX2_forward 24 = .ok (.getfield 40, 3) := by decide +kernel
theorem dX2_forward_27 : decode cX2_forward 27 = .ok (.getfield 98, 3) := by decide +kernel
theorem dX2_forward_30 : decode cX2_forward 30 = .ok (.iload_n 1, 1) := by decide +kernel
theorem dX2_forward_31 : decode cX2_forward 31 = .ok (.iaload, 1) := by decide +kernel
theorem dX2_forward_32 : decode cX2_forward 32 = .ok (.istore_n 2, 1) := by decide +kernel
theorem dX2_forward_33 : decode cX2_forward 33 = .ok (.aload_n 0, 1) := by decide +kernel
theorem dX2_forward_34 : decode cX2_forward 34 = .ok (.getfield 36, 3) := by decide +kernel
theorem dX2_forward_37 : decode cX2_forward 37 = .ok (.getfield 105, 3) := by decide +kernel
theorem dX2_forward_40 : decode cX2_forward 40 = .ok (.iload_n 2, 1) := by decide +kernel
theorem dX2_forward_41 : decode cX2_forward 41 = .ok (.iaload, 1) := by decide +kernel
theorem dX2_forward_42 : decode cX2_forward 42 = .ok (.iconst (-1), 1) := by decide +kernel
theorem dX2_forward_43 : decode cX2_forward 43 = .ok (.if_icmp .ne 11, 3) := by decide +kernel
theorem dX2_forward_46 : decode cX2_forward 46 = .ok (.aload_n 0, 1) := by decide +kernel
theorem dX2_forward_47 : decode cX2_forward 47 = .ok (.iload_n 2, 1) := by decide +kernel
theorem dX2_forward_48 : decode cX2_forward 48 = .ok (.invokevirtual 161, 3) := by decide +kernel
theorem dX2_forward_51 : decode cX2_forward 51 = .ok (.goto 4, 3) := by decide +kernel
theorem dX2_forward_54 : decode cX2_forward 54 = .ok (.iconst 0, 1) := by decide +kernel
theorem dX2_forward_55 : decode cX2_forward 55 = .ok (.istore_n 3, 1) := by decide +kernel
theorem dX2_forward_56 : decode cX2_forward 56 = .ok (.aload_n 0, 1) := by decide +kernel
theorem dX2_forward_57 : decode cX2_forward 57 = .ok (.getfield 40, 3) := by decide +kernel
theorem dX2_forward_60 : decode cX2_forward 60 = .ok (.iload_n 1, 1) := by decide +kernel
theorem dX2_forward_61 : decode cX2_forward 61 = .ok (.iconst 1, 1) := by decide +kernel
theorem dX2_forward_62 : decode cX2_forward 62 = .ok (.aload_n 0, 1) := by decide +kernel
theorem dX2_forward_63 : decode cX2_forward 63 = .ok (.getfield 40, 3) := by decide +kernel
theorem dX2_forward_66 : decode cX2_forward 66 = .ok (.getfield 88, 3) := by decide +kernel
theorem dX2_forward_69 : decode cX2_forward 69 = .ok (.iadd, 1) := by decide +kernel
theorem dX2_forward_70 : decode cX2_forward 70 = .ok (.aload_n 0, 1) := by decide +kernel
theorem dX2_forward_71 : decode cX2_forward 71 = .ok (.getfield 36, 3) := by decide +kernel
theorem dX2_forward_74 : decode cX2_forward 74 = .ok (.getfield 105, 3) := by decide +kernel
theorem dX2_forward_77 : decode cX2_forward 77 = .ok (.iload_n 2, 1) := by decide +kernel
theorem dX2_forward_78 : decode cX2_forward 78 = .ok (.iaload, 1) := by decide +kernel
theorem dX2_forward_79 : decode cX2_forward 79 = .ok (.invokevirtual 135, 3) := by decide +kernel
theorem dX2_forward_82 : decode cX2_forward 82 = .ok (.iload_n 3, 1) := by decide +kernel
theorem dX2_forward_83 : decode cX2_forward 83 = .ok (.ireturn, 1) := by decide +kernel
theorem dX2_replicate_0 : decode cX2_replicate 0 = .ok (.aload_n 0, 1) := by decide +kernel
theorem dX2_replicate_1 : decode cX2_replicate 1 = .ok (.getfield 36, 3) := by decide +kernel
theorem dX2_replicate_4 : decode cX2_replicate 4 = .ok (.getfield 98, 3) := by decide +kernel
theorem dX2_replicate_7 : decode cX2_replicate 7 = .ok (.iload_n 1, 1) := by decide +kernel
theorem dX2_replicate_8 : decode cX2_replicate 8 = .ok (.iaload, 1) := by decide +kernel
theorem dX2_replicate_9 : decode cX2_replicate 9 = .ok (.iconst 1, 1) := by decide +kernel
theorem dX2_replicate_10 : decode cX2_replicate 10 = .ok (.iadd, 1) := by decide +kernel
theorem dX2_replicate_11 : decode cX2_replicate 11 = .ok (.istore_n 2, 1) := by decide +kernel
theorem dX2_replicate_12 : decode cX2_replicate 12 = .ok (.aload_n 0, 1) := by decide +kernel
theorem dX2_replicate_13 : decode cX2_replicate 13 = .ok (.getfield 40, 3) := by decide +kernel
theorem dX2_replicate_16 : decode cX2_replicate 16 = .ok (.getfield 78, 3) := by decide +kernel
theorem dX2_replicate_19 : decode cX2_replicate 19 = .ok (.istore_n 3, 1) := by decide +kernel
theorem dX2_replicate_20 : decode cX2_replicate 20 = .ok (.iconst 0, 1) := by decide +kernel
theorem dX2_replicate_21 : decode cX2_replicate 21 = .ok (.istore 4, 2) := by decide +kernel
theorem dX2_replicate_23 : decode cX2_replicate 23 = .ok (.iload 4, 2) := by decide +kernel
theorem dX2_replicate_25 : decode cX2_replicate 25 = .ok (.iload_n 2, 1) := by decide +kernel
theorem dX2_replicate_26 : decode cX2_replicate 26 = .ok (.if_icmp .ge 57, 3) := by decide +kernel
theorem dX2_replicate_29 : decode cX2_replicate 29 = .ok (.aload_n 0, 1) := by decide +kernel
theorem dX2_replicate_30 : decode cX2_replicate 30 = .ok (.getfield 40, 3) := by decide +kernel
theorem dX2_replicate_33 : decode cX2_replicate 33 = .ok (.getfield 95, 3) := by decide +kernel
theorem dX2_replicate_36 : decode cX2_replicate 36 = .ok (.iload_n 3, 1) := by decide +kernel
theorem dX2_replicate_37 : decode cX2_replicate 37 = .ok (.iload 4, 2) := by decide +kernel
theorem dX2_replicate_39 : decode cX2_replicate 39 = .ok (.iadd, 1) := by decide +kernel
theorem dX2_replicate_40 : decode cX2_replicate 40 = .ok (.aload_n 0, 1) := by decide +kernel
theorem dX2_replicate_41 : decode cX2_replicate 41 = .ok (.getfield 36, 3) := by decide +kernel
theorem dX2_replicate_44 : decode cX2_replicate 44 = .ok (.getfield 95, 3) := by decide +kernel
theorem dX2_replicate_47 : decode cX2_replicate 47 = .ok (.iload_n 1, 1) := by decide +kernel
theorem dX2_replicate_48 : decode cX2_replicate 48 = .ok (.iload 4, 2) := by decide +kernel
theorem dX2_replicate_50 : decode cX2_replicate 50 = .ok (.iadd, 1) := by decide +kernel
theorem dX2_replicate_51 : decode cX2_replicate 51 = .ok (.iaload, 1) := by decide +kernel
theorem dX2_replicate_52 : decode cX2_replicate 52 = .ok (.iastore, 1) := by decide +kernel
theorem dX2_replicate_53 : decode cX2_replicate 53 = .ok (.aload_n 0, 1) := by decide +kernel
theorem dX2_replicate_54 : decode cX2_replicate 54 = .ok (.getfield 40, 3) := by decide +kernel
theorem dX2_replicate_57 : decode cX2_replicate 57 = .ok (.getfield 98, 3) := by decide +kernel
theorem dX2_replicate_60 : decode cX2_replicate 60 = .ok (.iload_n 3, 1) := by decide +kernel
theorem dX2_replicate_61 : decode cX2_replicate 61 = .ok (.iload 4, 2) := by decide +kernel
theorem dX2_replicate_63 : decode cX2_replicate 63 = .ok (.iadd, 1) := by decide +kernel
theorem dX2_replicate_64 : decode cX2_replicate 64 = .ok (.aload_n 0, 1) := by decide +kernel
theorem dX2_replicate_65 : decode cX2_replicate 65 = .ok (.getfield 36, 3) := by decide +kernel
theorem dX2_replicate_68 : decode cX2_replicate 68 = .ok (.getfield 98, 3) := by decide +kernel
theorem dX2_replicate_71 : decode cX2_replicate 71 = .ok (.iload_n 1, 1) := by decide +kernel
theorem dX2_replicate_72 : decode cX2_replicate 72 = .ok (.iload 4, 2) := by decide +kernel
theorem dX2_replicate_74 : decode cX2_replicate 74 = .ok (.iadd, 1) := by decide +kernel
theorem dX2_replicate_75 : decode cX2_replicate 75 = .ok (.iaload, 1) := by decide +kernel
theorem dX2_replicate_76 : decode cX2_replicate 76 = .ok (.iastore, 1) := by decide +kernel
theorem dX2_replicate_77 : decode cX2_replicate 77 = .ok (.iinc 4 1, 3) := by decide +kernel
theorem dX2_replicate_80 : decode cX2_replicate 80 = .ok (.goto (-57), 3) := by decide +kernel
theorem dX2_replicate_83 : decode cX2_replicate 83 = .ok (.aload_n 0, 1) := by decide +kernel
theorem dX2_replicate_84 : decode cX2_replicate 84 = .ok (.getfield 40, 3) := by decide +kernel
theorem dX2_replicate_87 : decode cX2_replicate 87 = .ok (.getfield 105, 3) := by decide +kernel
theorem dX2_replicate_90 : decode cX2_replicate 90 = .ok (.iload_n 3, 1) := by decide +kernel
theorem dX2_replicate_91 : decode cX2_replicate 91 = .ok (.iconst (-1), 1) := by decide +kernel
theorem dX2_replicate_92 : decode cX2_replicate 92 = .ok (.iastore, 1) := by decide +kernel
theorem dX2_replicate_93 : decode cX2_replicate 93 = .ok (.aload_n 0, 1) := by decide +kernel
theorem dX2_replicate_94 : decode cX2_replicate 94 = .ok (.getfield 40, 3) := by decide +kernel
theorem dX2_replicate_97 : decode cX2_replicate 97 = .ok (.dup, 1) := by decide +kernel
theorem dX2_replicate_98 : decode cX2_replicate 98 = .ok (.getfield 78, 3) := by decide +kernel
theorem dX2_replicate_101 : decode cX2_replicate 101 = .ok (.iload_n 2, 1) := by decide +kernel
theorem dX2_replicate_102 : decode cX2_replicate 102 = .ok (.iadd, 1) := by decide +kernel
theorem dX2_replicate_103 : decode cX2_replicate 103 = .ok (.putfield 78, 3) := by decide +kernel
theorem dX2_replicate_106 : decode cX2_replicate 106 = .ok (.aload_n 0, 1) := by decide +kernel
theorem dX2_replicate_107 : decode cX2_replicate 107 = .ok (.getfield 36, 3) := by decide +kernel
theorem dX2_replicate_110 : decode cX2_replicate 110 = .ok (.getfield 105, 3) := by decide +kernel
theorem dX2_replicate_113 : decode cX2_replicate 113 = .ok (.iload_n 1, 1) := by decide +kernel
theorem dX2_replicate_114 : decode cX2_replicate 114 = .ok (.iload_n 3, 1) := by decide +kernel
theorem dX2_replicate_115 : decode cX2_replicate 115 = .ok (.iastore, 1) := by decide +kernel
theorem dX2_replicate_116 : decode cX2_replicate 116 = .ok (.iload_n 2, 1) := by decide +kernel
theorem dX2_replicate_117 : decode cX2_replicate 117 = .ok (.ireturn, 1) := by decide +kernel
theorem dX2_rootWithoutReplica_0 : decode cX2_rootWithoutReplica 0 = .ok (.iconst 0, 1) := by decide +kernel
theorem dX2_rootWithoutReplica_1 : decode cX2_rootWithoutReplica 1 = .ok (.istore_n 1, 1) := by decide +kernel
theorem dX2_rootWithoutReplica_2 : decode cX2_rootWithoutReplica 2 = .ok (.iload_n 1, 1) := by decide +kernel
theorem dX2_rootWithoutReplica_3 : decode cX2_rootWithoutReplica 3 = .ok (.bipush 16, 2) := by decide +kernel
theorem dX2_rootWithoutReplica_5 : decode cX2_rootWithoutReplica 5 = .ok (.if_icmp .ge 38, 3) := by decide +kernel
theorem dX2_rootWithoutReplica_8 : decode cX2_rootWithoutReplica 8 = .ok (.aload_n 0, 1) := by decide +kernel
theorem dX2_rootWithoutReplica_9 : decode cX2_rootWithoutReplica 9 = .ok (.getfield 9, 3) := by decide +kernel
theorem dX2_rootWithoutReplica_12 : decode cX2_rootWithoutReplica 12 = .ok (.iload_n 1, 1) := by decide +kernel
theorem dX2_rootWithoutReplica_13 : decode cX2_rootWithoutReplica 13 = .ok (.baload, 1) := by decide +kernel
theorem dX2_rootWithoutReplica_14 : decode cX2_rootWithoutReplica 14 = .ok (.ifCond .eq 23, 3) := by decide +kernel
theorem dX2_rootWithoutReplica_17 : decode cX2_rootWithoutReplica 17 = .ok (.aload_n 0, 1) := by decide +kernel
theorem dX2_rootWithoutReplica_18 : decode cX2_rootWithoutReplica 18 = .ok (.getfield 36, 3) := by decide +kernel
theorem dX2_rootWithoutReplica_21 : decode cX2_rootWithoutReplica 21 = .ok (.getfield 105, 3) := by decide +kernel
theorem dX2_rootWithoutReplica_24 : decode cX2_rootWithoutReplica 24 = .ok (.aload_n 0, 1) := by decide +kernel
theorem dX2_rootWithoutReplica_25 : decode cX2_rootWithoutReplica 25 = .ok (.getfield 13, 3) := by decide +kernel
theorem dX2_rootWithoutReplica_28 : decode cX2_rootWithoutReplica 28 = .ok (.iload_n 1, 1) := by decide +kernel
theorem dX2_rootWithoutReplica_29 : decode cX2_rootWithoutReplica 29 = .ok (.iaload, 1) := by decide +kernel
theorem dX2_rootWithoutReplica_30 : decode cX2_rootWithoutReplica 30 = .ok (.iaload, 1) := by decide +kernel
theorem dX2_rootWithoutReplica_31 : decode cX2_rootWithoutReplica 31 = .ok (.iconst (-1), 1) := by decide +kernel
theorem dX2_rootWithoutReplica_32 : decode cX2_rootWithoutReplica 32 = .ok (.if_icmp .ne 5, 3) := by decide +kernel
theorem dX2_rootWithoutReplica_35 : decode cX2_rootWithoutReplica 35 = .ok (.iload_n 1, 1) := by decide +kernel
theorem dX2_rootWithoutReplica_36 : decode cX2_rootWithoutReplica 36 = .ok (.ireturn, 1) := by decide +kernel
theorem dX2_rootWithoutReplica_37 : decode cX2_rootWithoutReplica 37 = .ok (.iinc 1 1, 3) := by decide +kernel
theorem dX2_rootWithoutReplica_40 : decode cX2_rootWithoutReplica 40 = .ok (.goto (-38), 3) := by decide +kernel
theorem dX2_rootWithoutReplica_43 : decode cX2_rootWithoutReplica 43 = .ok (.iconst (-1), 1) := by decide +kernel
theorem dX2_rootWithoutReplica_44 : decode cX2_rootWithoutReplica 44 = .ok (.ireturn, 1) := by decide +kernel
set_option maxRecDepth 20000 in
theorem ggX2_flip_X0_clear : GoodIn wsX2_flip wsX0_clear := goodIn_r _ [12, 13, 14, 35, 36, 37, 38] (by decide +kernel) (by decide +kernel)
set_option maxRecDepth 20000 in
theorem gX2_flip_X0_clear_n167 : GoodIn wsX2_flip (wsX0_clear) := ggX2_flip_X0_clear
theorem dX2_flip_0 : decode cX2_flip 0 = .ok (.iconst 0, 1) := by decide +kernel
theorem dX2_flip_1 : decode cX2_flip 1 = .ok (.istore_n 1, 1) := by decide +kernel
theorem dX2_flip_2 : decode cX2_flip 2 = .ok (.iload_n 1, 1) := by decide +kernel
theorem dX2_flip_3 : decode cX2_flip 3 = .ok (.bipush 16, 2) := by decide +kernel
theorem dX2_flip_5 : decode cX2_flip 5 = .ok (.if_icmp .ge 38, 3) := by decide +kernel
theorem dX2_flip_8 : decode cX2_flip 8 = .ok (.aload_n 0, 1) := by decide +kernel
theorem dX2_flip_9 : decode cX2_flip 9 = .ok (.getfield 9, 3) := by decide +kernel
theorem dX2_flip_12 : decode cX2_flip 12 = .ok (.iload_n 1, 1) := by decide +kernel
theorem dX2_flip_13 : decode cX2_flip 13 = .ok (.baload, 1) := by decide +kernel
theorem dX2_flip_14 : decode cX2_flip 14 = .ok (.ifCond .eq 23, 3) := by decide +kernel
theorem dX2_flip_17 : decode cX2_flip 17 = .ok (.aload_n 0, 1) := by decide +kernel
theorem dX2_flip_18 : decode cX2_flip 18 = .ok (.getfield 13, 3) := by decide +kernel
theorem dX2_flip_21 : decode cX2_flip 21 = .ok (.iload_n 1, 1) := by decide +kernel
theorem dX2_flip_22 : decode cX2_flip 22 = .ok (.aload_n 0, 1) := by decide +kernel
theorem dX2_flip_23 : decode cX2_flip 23 = .ok (.getfield 36, 3) := by decide +kernel
theorem dX2_flip_26 : decode cX2_flip 26 = .ok (.getfield 105, 3) := by decide +kernel
theorem dX2_flip_29 : decode cX2_flip 29 = .ok (.aload_n 0, 1) := by decide +kernel
theorem dX2_flip_30 : decode cX2_flip 30 = .ok (.getfield 13, 3) := by decide +kernel
theorem dX2_flip_33 : decode cX2_flip 33 = .ok (.iload_n 1, 1) := by decide +kernel
theorem dX2_flip_34 : decode cX2_flip 34 = .ok (.iaload, 1) := by decide +kernel
theorem dX2_flip_35 : decode cX2_flip 35 = .ok (.iaload, 1) := by decide +kernel
theorem dX2_flip_36 : decode cX2_flip 36 = .ok (.iastore, 1) := by decide +kernel
theorem dX2_flip_37 : decode cX2_flip 37 = .ok (.iinc 1 1, 3) := by decide +kernel
theorem dX2_flip_40 : decode cX2_flip 40 = .ok (.goto (-38), 3) := by decide +kernel
theorem dX2_flip_43 : decode cX2_flip 43 = .ok (.aload_n 0, 1) := by decide +kernel
theorem dX2_flip_44 : decode cX2_flip 44 = .ok (.getfield 36, 3) := by decide +kernel
theorem dX2_flip_47 : decode cX2_flip 47 = .ok (.astore_n 1, 1) := by decide +kernel
theorem dX2_flip_48 : decode cX2_flip 48 = .ok (.aload_n 0, 1) := by decide +kernel
theorem dX2_flip_49 : decode cX2_flip 49 = .ok (.aload_n 0, 1) := by decide +kernel
theorem dX2_flip_50 : decode cX2_flip 50 = .ok (.getfield 40, 3) := by decide +kernel
theorem dX2_flip_53 : decode cX2_flip 53 = .ok (.putfield 36, 3) := by decide +kernel
theorem dX2_flip_56 : decode cX2_flip 56 = .ok (.aload_n 0, 1) := by decide +kernel
theorem dX2_flip_57 : decode cX2_flip 57 = .ok (.aload_n 1, 1) := by decide +kernel
theorem dX2_flip_58 : decode cX2_flip 58 = .ok (.putfield 40, 3) := by decide +kernel
theorem dX2_flip_61 : decode cX2_flip 61 = .ok (.aload_n 0, 1) := by decide +kernel
theorem dX2_flip_62 : decode cX2_flip 62 = .ok (.getfield 40, 3) := by decide +kernel
theorem dX2_flip_65 : decode cX2_flip 65 = .ok (.iconst 0, 1) := by decide +kernel
theorem dX2_flip_66 : decode cX2_flip 66 = .ok (.putfield 78, 3) := by decide +kernel
theorem dX2_flip_69 : decode cX2_flip 69 = .ok (.aload_n 0, 1) := by decide +kernel
theorem dX2_flip_70 : decode cX2_flip 70 = .ok (.iconst 0, 1) := by decide +kernel
theorem dX2_flip_71 : decode cX2_flip 71 = .ok (.putfield 71, 3) := by decide +kernel
theorem dX2_flip_74 : decode cX2_flip 74 = .ok (.aload_n 0, 1) := by decide +kernel
theorem dX2_flip_75 : decode cX2_flip 75 = .ok (.iconst 0, 1) := by decide +kernel
theorem dX2_flip_76 : decode cX2_flip 76 = .ok (.putfield 117, 3) := by decide +kernel
theorem dX2_flip_79 : decode cX2_flip 79 = .ok (.aload_n 0, 1) := by decide +kernel
theorem dX2_flip_80 : decode cX2_flip 80 = .ok (.getfield 20, 3) := by decide +kernel
theorem dX2_flip_83 : decode cX2_flip 83 = .ok (.invokevirtual 167, 3) := by decide +kernel
theorem dX2_flip_86 : decode cX2_flip 86 = .ok (.aload_n 0, 1) := by decide +kernel
theorem dX2_flip_87 : decode cX2_flip 87 = .ok (.dup, 1) := by decide +kernel
theorem dX2_flip_88 : decode cX2_flip 88 = .ok (.getfield 123, 3) := by decide +kernel
theorem dX2_flip_91 : decode cX2_flip 91 = .ok (.iconst 1, 1) := by decide +kernel
theorem dX2_flip_92 : decode cX2_flip 92 = .ok (.iadd, 1) := by decide +kernel
theorem dX2_flip_93 : decode cX2_flip 93 = .ok (.putfield 123, 3) := by decide +kernel
theorem dX2_flip_96 : decode cX2_flip 96 = .ok (.return_, 1) := by decide +kernel
end
section
theorem dX3_init_0 : decode cX3_init 0 = .ok (.aload_n 0, 1) := by decide +kernel
theorem dX3_init_1 : decode cX3_init 1 = .ok (.invokespecial 1, 3) := by decide +kernel
theorem dX3_init_4 : decode cX3_init 4 = .ok (.aload_n 0, 1) := by decide +kernel
theorem dX3_init_5 : decode cX3_init 5 = .ok (.sipush 800, 3) := by decide +kernel
theorem dX3_init_8 : decode cX3_init 8 = .ok (.newarray .int, 2) := by decide +kernel
theorem dX3_init_10 : decode cX3_init 10 = .ok (.putfield 7, 3) := by decide +kernel
theorem dX3_init_13 : decode cX3_init 13 = .ok (.aload_n 0, 1) := by decide +kernel
theorem dX3_init_14 : decode cX3_init 14 = .ok (.sipush 800, 3) := by decide +kernel
theorem dX3_init_17 : decode cX3_init 17 = .ok (.newarray .int, 2) := by decide +kernel
theorem dX3_init_19 : decode cX3_init 19 = .ok (.putfield 13, 3) := by decide +kernel
theorem dX3_init_22 : decode cX3_init 22 = .ok (.aload_n 0, 1) := by decide +kernel
theorem dX3_init_23 : decode cX3_init 23 = .ok (.sipush 800, 3) := by decide +kernel
theorem dX3_init_26 : decode cX3_init 26 = .ok (.newarray .int, 2) := by decide +kernel
theorem dX3_init_28 : decode cX3_init 28 = .ok (.putfield 16, 3) := by decide +kernel
theorem dX3_init_31 : decode cX3_init 31 = .ok (.aload_n 0, 1) := by decide +kernel
theorem dX3_init_32 : decode cX3_init 32 = .ok (.iconst 2, 1) := by decide +kernel
theorem dX3_init_33 : decode cX3_init 33 = .ok (.newarray .int, 2) := by decide +kernel
theorem dX3_init_35 : decode cX3_init 35 = .ok (.putfield 19, 3) := by decide +kernel
theorem dX3_init_38 : decode cX3_init 38 = .ok (.aload_n 0, 1) := by decide +kernel
theorem dX3_init_39 : decode cX3_init 39 = .ok (.bipush 16, 2) := by decide +kernel
theorem dX3_init_41 : decode cX3_init 41 = .ok (.newarray .boolean, 2) := by decide +kernel
theorem dX3_init_43 : decode cX3_init 43 = .ok (.putfield 22, 3) := by decide +kernel
theorem dX3_init_46 : decode cX3_init 46 = .ok (.aload_n 0, 1) := by decide +kernel
theorem dX3_init_47 : decode cX3_init 47 = .ok (.bipush 16, 2) := by decide +kernel
theorem dX3_init_49 : decode cX3_init 49 = .ok (.newarray .int, 2) := by decide +kernel
theorem dX3_init_51 : decode cX3_init 51 = .ok (.putfield 26, 3) := by decide +kernel
theorem dX3_init_54 : decode cX3_init 54 = .ok (.aload_n 0, 1) := by decide +kernel
theorem dX3_init_55 : decode cX3_init 55 = .ok (.sipush 4096, 3) := by decide +kernel
theorem dX3_init_58 : decode cX3_init 58 = .ok (.newarray .int, 2) := by decide +kernel
theorem dX3_init_60 : decode cX3_init 60 = .ok (.putfield 29, 3) := by decide +kernel
theorem dX3_init_63 : decode cX3_init 63 = .ok (.aload_n 0, 1) := by decide +kernel
theorem dX3_init_64 : decode cX3_init 64 = .ok (.sipush 4096, 3) := by decide +kernel
theorem dX3_init_67 : decode cX3_init 67 = .ok (.newarray .int, 2) := by decide +kernel
theorem dX3_init_69 : decode cX3_init 69 = .ok (.putfield 32, 3) := by decide +kernel
theorem dX3_init_72 : decode cX3_init 72 = .ok (.aload_n 0, 1) := by decide +kernel
theorem dX3_init_73 : decode cX3_init 73 = .ok (.iload_n 1, 1) := by decide +kernel
theorem dX3_init_74 : decode cX3_init 74 = .ok (.bipush 16, 2) := by decide +kernel
theorem dX3_init_76 : decode cX3_init 76 = .ok (.if_icmp .lt 14, 3) := by decide +kernel
theorem dX3_init_79 : decode cX3_init 79 = .ok (.iload_n 1, 1) := by decide +kernel
theorem dX3_init_80 : decode cX3_init 80 = .ok (.sipush 400, 3) := by decide +kernel
theorem dX3_init_83 : decode cX3_init 83 = .ok (.if_icmp .gt 7, 3) := by decide +kernel
theorem dX3_init_86 : decode cX3_init 86 = .ok (.iload_n 1, 1) := by decide +kernel
theorem dX3_init_87 : decode cX3_init 87 = .ok (.goto 5, 3) := by decide +kernel
theorem dX3_init_90 : decode cX3_init 90 = .ok (.bipush 64, 2) := by decide +kernel
theorem dX3_init_92 : decode cX3_init 92 = .ok (.putfield 35, 3) := by decide +kernel
theorem dX3_init_95 : decode cX3_init 95 = .ok (.aload_n 0, 1) := by decide +kernel
theorem dX3_init_96 : decode cX3_init 96 = .ok (.iload_n 2, 1) := by decide +kernel
theorem dX3_init_97 : decode cX3_init 97 = .ok (.iconst 1, 1) := by decide +kernel
theorem dX3_init_98 : decode cX3_init 98 = .ok (.if_icmp .lt 13, 3) := by decide +kernel
theorem dX3_init_101 : decode cX3_init 101 = .ok (.iload_n 2, 1) := by decide +kernel
theorem dX3_init_102 : decode cX3_init 102 = .ok (.bipush 64, 2) := by decide +kernel
theorem dX3_init_104 : decode cX3_init 104 = .ok (.if_icmp .gt 7, 3) := by decide +kernel
theorem dX3_init_107 : decode cX3_init 107 = .ok (.iload_n 2, 1) := by decide +kernel
theorem dX3_init_108 : decode cX3_init 108 = .ok (.goto 4, 3) := by decide +kernel
theorem dX3_init_111 : decode cX3_init 111 = .ok (.iconst 4, 1) := by decide +kernel
theorem dX3_init_112 : decode cX3_init 112 = .ok (.putfield 39, 3) := by decide +kernel
theorem dX3_init_115 : decode cX3_init 115 = .ok (.return_, 1) := by decide +kernel
theorem dX3_thrown_0 : decode cX3_thrown 0 = .ok (.aload_n 0, 1) := by decide +kernel
theorem dX3_thrown_1 : decode cX3_thrown 1 = .ok (.getfield 42, 3) := by decide +kernel
theorem dX3_thrown_4 : decode cX3_thrown 4 = .ok (.ireturn, 1) := by decide +kernel
theorem dX3_other_0 : decode cX3_other 0 = .ok (.iconst 1, 1) := by decide +kernel
theorem dX3_other_1 : decode cX3_other 1 = .ok (.aload_n 0, 1) := by decide +kernel
theorem dX3_other_2 : decode cX3_other 2 = .ok (.getfield 45, 3) := by decide +kernel
theorem dX3_other_5 : decode cX3_other 5 = .ok (.isub, 1) := by decide +kernel
theorem dX3_other_6 : decode cX3_other 6 = .ok (.ireturn, 1) := by decide +kernel
theorem dX3_at_0 : decode cX3_at 0 = .ok (.sipush 400, 3) := by decide +kernel
theorem dX3_at_3 : decode cX3_at 3 = .ok (.iload_n 0, 1) := by decide +kernel
theorem dX3_at_4 : decode cX3_at 4 = .ok (.imul, 1) := by decide +kernel
theorem dX3_at_5 : decode cX3_at 5 = .ok (.iload_n 1, 1) := by decide +kernel
theorem dX3_at_6 : decode cX3_at 6 = .ok (.iadd, 1) := by decide +kernel
theorem dX3_at_7 : decode cX3_at 7 = .ok (.ireturn, 1) := by decide +kernel
set_option maxRecDepth 20000 in
theorem ggX3_replicate_X3_at : GoodIn wsX3_replicate wsX3_at := goodIn_r _ [9] (by decide +kernel) (by decide +kernel)
set_option maxRecDepth 20000 in
theorem gX3_replicate_X3_at : GoodIn wsX3_replicate (va_wsS RX3 48 yX3_at wsX3_at) := goodIn_app (goodIn_of _ (by decide +kernel)) ggX3_replicate_X3_at
set_option maxRecDepth 20000 in
theorem ggX3_replicate_X3_other : GoodIn wsX3_replicate wsX3_other := goodIn_r _ [13, 1, 14, 15, 16, 17, 18, 19, 20, 21, 22, 23, 24, 25, 26, 27, 28, 29, 30, 31, 32, 33, 34, 35] (by decide +kernel) (by decide +kernel)
set_option maxRecDepth 20000 in
theorem gX3_replicate_X3_other : GoodIn wsX3_replicate (wsV RX3 52 RX3 yX3_other wsX3_other) := goodIn_app (goodIn_of _ (by decide +kernel)) ggX3_replicate_X3_other
theorem dX3_replicate_0 : decode cX3_replicate 0 = .ok (.aload_n 0, 1) := by decide +kernel
theorem dX3_replicate_1 : decode cX3_replicate 1 = .ok (.getfield 45, 3) := by decide +kernel
theorem dX3_replicate_4 : decode cX3_replicate 4 = .ok (.iload_n 1, 1) := by decide +kernel
theorem dX3_replicate_5 : decode cX3_replicate 5 = .ok (.invokestatic 48, 3) := by decide +kernel
theorem dX3_replicate_8 : decode cX3_replicate 8 = .ok (.istore_n 2, 1) := by decide +kernel
theorem dX3_replicate_9 : decode cX3_replicate 9 = .ok (.aload_n 0, 1) := by decide +kernel
theorem dX3_replicate_10 : decode cX3_replicate 10 = .ok (.getfield 16, 3) := by decide +kernel
theorem dX3_replicate_13 : decode cX3_replicate 13 = .ok (.iload_n 2, 1) := by decide +kernel
theorem dX3_replicate_14 : decode cX3_replicate 14 = .ok (.iaload, 1) := by decide +kernel
theorem dX3_replicate_15 : decode cX3_replicate 15 = .ok (.iconst (-1), 1) := by decide +kernel
theorem dX3_replicate_16 : decode cX3_replicate 16 = .ok (.if_icmp .eq 5, 3) := by decide +kernel
theorem dX3_replicate_19 : decode cX3_replicate 19 = .ok (.iconst 0, 1) := by decide +kernel
theorem dX3_replicate_20 : decode cX3_replicate 20 = .ok (.ireturn, 1) := by decide +kernel
theorem dX3_replicate_21 : decode cX3_replicate 21 = .ok (.aload_n 0, 1) := by decide +kernel
theorem dX3_replicate_22 : decode cX3_replicate 22 = .ok (.getfield 13, 3) := by decide +kernel
theorem dX3_replicate_25 : decode cX3_replicate 25 = .ok (.iload_n 2, 1) := by decide +kernel
theorem dX3_replicate_26 : decode cX3_replicate 26 = .ok (.iaload, 1) := by decide +kernel
theorem dX3_replicate_27 : decode cX3_replicate 27 = .ok (.istore_n 3, 1) := by decide +kernel
theorem dX3_replicate_28 : decode cX3_replicate 28 = .ok (.aload_n 0, 1) := by decide +kernel
theorem dX3_replicate_29 : decode cX3_replicate 29 = .ok (.invokevirtual 52, 3) := by decide +kernel
theorem dX3_replicate_32 : decode cX3_replicate 32 = .ok (.aload_n 0, 1) := by decide +kernel
theorem dX3_replicate_33 : decode cX3_replicate 33 = .ok (.getfield 19, 3) := by decide +kernel
theorem dX3_replicate_36 : decode cX3_replicate 36 = .ok (.aload_n 0, 1) := by decide +kernel
theorem dX3_replicate_37 : decode cX3_replicate 37 = .ok (.invokevirtual 52, 3) := by decide +kernel
theorem dX3_replicate_40 : decode cX3_replicate 40 = .ok (.iaload, 1) := by decide +kernel
theorem dX3_replicate_41 : decode cX3_replicate 41 = .ok (.invokestatic 48, 3) := by decide +kernel
theorem dX3_replicate_44 : decode cX3_replicate 44 = .ok (.istore 4, 2) := by decide +kernel
theorem dX3_replicate_46 : decode cX3_replicate 46 = .ok (.iconst 0, 1) := by decide +kernel
theorem dX3_replicate_47 : decode cX3_replicate 47 = .ok (.istore 5, 2) := by decide +kernel
theorem dX3_replicate_49 : decode cX3_replicate 49 = .ok (.iload 5, 2) := by decide +kernel
theorem dX3_replicate_51 : decode cX3_replicate 51 = .ok (.iload_n 3, 1) := by decide +kernel
theorem dX3_replicate_52 : decode cX3_replicate 52 = .ok (.if_icmp .gt 47, 3) := by decide +kernel
theorem dX3_replicate_55 : decode cX3_replicate 55 = .ok (.aload_n 0, 1) := by decide +kernel
theorem dX3_replicate_56 : decode cX3_replicate 56 = .ok (.getfield 7, 3) := by decide +kernel
theorem dX3_replicate_59 : decode cX3_replicate 59 = .ok (.iload 4, 2) := by decide +kernel
theorem dX3_replicate_61 : decode cX3_replicate 61 = .ok (.iload 5, 2) := by decide +kernel
theorem dX3_replicate_63 : decode cX3_replicate 63 = .ok (.iadd, 1) := by decide +kernel
theorem dX3_replicate_64 : decode cX3_replicate 64 = .ok (.aload_n 0, 1) := by decide +kernel
theorem dX3_replicate_65 : decode cX3_replicate 65 = .ok (.getfield 7, 3) := by decide +kernel
theorem dX3_replicate_68 : decode cX3_replicate 68 = .ok (.iload_n 2, 1) := by decide +kernel
theorem dX3_replicate_69 : decode cX3_replicate 69 = .ok (.iload 5, 2) := by decide +kernel
theorem dX3_replicate_71 : decode cX3_replicate 71 = .ok (.iadd, 1) := by decide +kernel
theorem dX3_replicate_72 : decode cX3_replicate 72 = .ok (.iaload, 1) := by decide +kernel
theorem dX3_replicate_73 : decode cX3_replicate 73 = .ok (.iastore, 1) := by decide +kernel
theorem dX3_replicate_74 : decode cX3_replicate 74 = .ok (.aload_n 0, 1) := by decide +kernel
theorem dX3_replicate_75 : decode cX3_replicate 75 = .ok (.getfield 13, 3) := by decide +kernel
theorem dX3_replicate_78 : decode cX3_replicate 78 = .ok (.iload 4, 2) := by decide +kernel
theorem dX3_replicate_80 : decode cX3_replicate 80 = .ok (.iload 5, 2) := by decide +kernel
theorem dX3_replicate_82 : decode cX3_replicate 82 = .ok (.iadd, 1) := by decide +kernel
theorem dX3_replicate_83 : decode cX3_replicate 83 = .ok (.aload_n 0, 1) := by decide +kernel
theorem dX3_replicate_84 : decode cX3_replicate 84 = .ok (.getfield 13, 3) := by decide +kernel
theorem dX3_replicate_87 : decode cX3_replicate 87 = .ok (.iload_n 2, 1) := by decide +kernel
theorem dX3_replicate_88 : decode cX3_replicate 88 = .ok (.iload 5, 2) := by decide +kernel
theorem dX3_replicate_90 : decode cX3_replicate 90 = .ok (.iadd, 1) := by decide +kernel
theorem dX3_replicate_91 : decode cX3_replicate 91 = .ok (.iaload, 1) := by decide +kernel
theorem dX3_replicate_92 : decode cX3_replicate 92 = .ok (.iastore, 1) := by decide +kernel
theorem dX3_replicate_93 : decode cX3_replicate 93 = .ok (.iinc 5 1, 3) := by decide +kernel
theorem dX3_replicate_96 : decode cX3_replicate 96 = .ok (.goto (-47), 3) := by decide +kernel
theorem dX3_replicate_99 : decode cX3_replicate 99 = .ok (.aload_n 0, 1) := by decide +kernel
theorem dX3_replicate_100 : decode cX3_replicate 100 = .ok (.getfield 16, 3) := by decide +kernel
theorem dX3_replicate_103 : decode cX3_replicate 103 = .ok (.iload 4, 2) := by decide +kernel
theorem dX3_replicate_105 : decode cX3_replicate 105 = .ok (.iconst (-1), 1) := by decide +kernel
theorem dX3_replicate_106 : decode cX3_replicate 106 = .ok (.iastore, 1) := by decide +kernel
theorem dX3_replicate_107 : decode cX3_replicate 107 = .ok (.aload_n 0, 1) := by decide +kernel
theorem dX3_replicate_108 : decode cX3_replicate 108 = .ok (.getfield 16, 3) := by decide +kernel
theorem dX3_replicate_111 : decode cX3_replicate 111 = .ok (.iload_n 2, 1) := by decide +kernel
theorem dX3_replicate_112 : decode cX3_replicate 112 = .ok (.aload_n 0, 1) := by decide +kernel
theorem dX3_replicate_113 : decode cX3_replicate 113 = .ok (.getfield 19, 3) := by decide +kernel
theorem dX3_replicate_116 : decode cX3_replicate 116 = .ok (.aload_n 0, 1) := by decide +kernel
theorem dX3_replicate_117 : decode cX3_replicate 117 = .ok (.invokevirtual 52, 3) := by decide +kernel
theorem dX3_replicate_120 : decode cX3_replicate 120 = .ok (.iaload, 1) := by decide +kernel
theorem dX3_replicate_121 : decode cX3_replicate 121 = .ok (.iastore, 1) := by decide +kernel
theorem dX3_replicate_122 : decode cX3_replicate 122 = .ok (.aload_n 0, 1) := by decide +kernel
theorem dX3_replicate_123 : decode cX3_replicate 123 = .ok (.getfield 19, 3) := by decide +kernel
theorem dX3_replicate_126 : decode cX3_replicate 126 = .ok (.aload_n 0, 1) := by decide +kernel
theorem dX3_replicate_127 : decode cX3_replicate 127 = .ok (.invokevirtual 52, 3) := by decide +kernel
theorem dX3_replicate_130 : decode cX3_replicate 130 = .ok (.dup2, 1) := by decide +kernel
theorem dX3_replicate_131 : decode cX3_replicate 131 = .ok (.iaload, 1) := by decide +kernel
theorem dX3_replicate_132 : decode cX3_replicate 132 = .ok (.iload_n 3, 1) := by decide +kernel
theorem dX3_replicate_133 : decode cX3_replicate 133 = .ok (.iconst 1, 1) := by decide +kernel
theorem dX3_replicate_134 : decode cX3_replicate 134 = .ok (.iadd, 1) := by decide +kernel
theorem dX3_replicate_135 : decode cX3_replicate 135 = .ok (.iadd, 1) := by decide +kernel
theorem dX3_replicate_136 : decode cX3_replicate 136 = .ok (.iastore, 1) := by decide +kernel
theorem dX3_replicate_137 : decode cX3_replicate 137 = .ok (.iload_n 3, 1) := by decide +kernel
theorem dX3_replicate_138 : decode cX3_replicate 138 = .ok (.iconst 1, 1) := by decide +kernel
theorem dX3_replicate_139 : decode cX3_replicate 139 = .ok (.iadd, 1) := by decide +kernel
theorem dX3_replicate_140 : decode cX3_replicate 140 = .ok (.ireturn, 1) := by decide +kernel
set_option maxRecDepth 20000 in
theorem ggX3_refer_X3_replicate : GoodIn wsX3_refer wsX3_replicate := goodIn_r _ [9, 4, 3, 2, 10, 1, 11, 12, 8, 13, 14, 15, 16, 17, 18, 19, 20, 21, 22, 23, 24, 25, 26, 27, 28, 29, 30, 31, 32, 33, 34, 35, 36, 37, 38, 39] (by decide +kernel) (by decide +kernel)
set_option maxRecDepth 20000 in
theorem gX3_refer_X3_replicate : GoodIn wsX3_refer (wsV RX3 56 RX3 yX3_replicate wsX3_replicate) := goodIn_app (goodIn_of _ (by decide +kernel)) ggX3_refer_X3_replicate
set_option maxRecDepth 20000 in
theorem ggX3_refer_X3_other : GoodIn wsX3_refer wsX3_other := goodIn_r _ [17, 4, 18, 19, 20, 21, 22, 23, 24, 25, 26, 27, 28, 29, 30, 31, 32, 33, 34, 35, 36, 37, 38, 39] (by decide +kernel) (by decide +kernel)
set_option maxRecDepth 20000 in
theorem gX3_refer_X3_other : GoodIn wsX3_refer (wsV RX3 52 RX3 yX3_other wsX3_other) := goodIn_app (goodIn_of _ (by decide +kernel)) ggX3_refer_X3_other
set_option maxRecDepth 20000 in
theorem ggX3_refer_X3_at : GoodIn wsX3_refer wsX3_at := goodIn_r _ [13] (by decide +kernel) (by decide +kernel)
set_option maxRecDepth 20000 in
theorem gX3_refer_X3_at : GoodIn wsX3_refer (va_wsS RX3 48 yX3_at wsX3_at) := goodIn_app (goodIn_of _ (by decide +kernel)) ggX3_refer_X3_at
theorem dX3_refer_0 : decode cX3_refer 0 = .ok (.aload_n 0, 1) := by decide +kernel
theorem dX3_refer_1 : decode cX3_refer 1 = .ok (.iload_n 2, 1) := by decide +kernel
theorem dX3_refer_2 : decode cX3_refer 2 = .ok (.invokevirtual 56, 3) := by decide +kernel
theorem dX3_refer_5 : decode cX3_refer 5 = .ok (.istore_n 3, 1) := by decide +kernel
theorem dX3_refer_6 : decode cX3_refer 6 = .ok (.aload_n 0, 1) := by decide +kernel
theorem dX3_refer_7 : decode cX3_refer 7 = .ok (.getfield 7, 3) := by decide +kernel
theorem dX3_refer_10 : decode cX3_refer 10 = .ok (.iload_n 1, 1) := by decide +kernel
theorem dX3_refer_11 : decode cX3_refer 11 = .ok (.iconst 1, 1) := by decide +kernel
theorem dX3_refer_12 : decode cX3_refer 12 = .ok (.aload_n 0, 1) := by decide +kernel
theorem dX3_refer_13 : decode cX3_refer 13 = .ok (.invokevirtual 52, 3) := by decide +kernel
theorem dX3_refer_16 : decode cX3_refer 16 = .ok (.iadd, 1) := by decide +kernel
theorem dX3_refer_17 : decode cX3_refer 17 = .ok (.iastore, 1) := by decide +kernel
theorem dX3_refer_18 : decode cX3_refer 18 = .ok (.aload_n 0, 1) := by decide +kernel
theorem dX3_refer_19 : decode cX3_refer 19 = .ok (.getfield 13, 3) := by decide +kernel
theorem dX3_refer_22 : decode cX3_refer 22 = .ok (.iload_n 1, 1) := by decide +kernel
theorem dX3_refer_23 : decode cX3_refer 23 = .ok (.aload_n 0, 1) := by decide +kernel
theorem dX3_refer_24 : decode cX3_refer 24 = .ok (.getfield 16, 3) := by decide +kernel
theorem dX3_refer_27 : decode cX3_refer 27 = .ok (.aload_n 0, 1) := by decide +kernel
theorem dX3_refer_28 : decode cX3_refer 28 = .ok (.getfield 45, 3) := by decide +kernel
theorem dX3_refer_31 : decode cX3_refer 31 = .ok (.iload_n 2, 1) := by decide +kernel
theorem dX3_refer_32 : decode cX3_refer 32 = .ok (.invokestatic 48, 3) := by decide +kernel
theorem dX3_refer_35 : decode cX3_refer 35 = .ok (.iaload, 1) := by decide +kernel
theorem dX3_refer_36 : decode cX3_refer 36 = .ok (.iastore, 1) := by decide +kernel
theorem dX3_refer_37 : decode cX3_refer 37 = .ok (.iload_n 3, 1) := by decide +kernel
theorem dX3_refer_38 : decode cX3_refer 38 = .ok (.ireturn, 1) := by decide +kernel
set_option maxRecDepth 20000 in
theorem ggX3_take_X3_at : GoodIn wsX3_take wsX3_at := goodIn_r _ [11] (by decide +kernel) (by decide +kernel)
set_option maxRecDepth 20000 in
theorem gX3_take_X3_at : GoodIn wsX3_take (va_wsS RX3 48 yX3_at wsX3_at) := goodIn_app (goodIn_of _ (by decide +kernel)) ggX3_take_X3_at
set_option maxRecDepth 20000 in
theorem ggX3_take_X3_other : GoodIn wsX3_take wsX3_other := goodIn_r _ [15, 4, 25, 26, 27, 28, 29, 30, 31, 32, 33, 34, 35, 36, 37, 38, 39, 40, 41, 42, 43, 44, 45, 46] (by decide +kernel) (by decide +kernel)
set_option maxRecDepth 20000 in
theorem gX3_take_X3_other : GoodIn wsX3_take (wsV RX3 52 RX3 yX3_other wsX3_other) := goodIn_app (goodIn_of _ (by decide +kernel)) ggX3_take_X3_other
set_option maxRecDepth 20000 in
theorem ggX3_take_X3_refer : GoodIn wsX3_take wsX3_refer := goodIn_r _ [19, 6, 7, 5, 4, 20, 21, 22, 10, 23, 24, 8, 9, 11, 12, 13, 14, 15, 25, 26, 27, 28, 29, 30, 31, 32, 33, 34, 35, 36, 37, 38, 39, 40, 41, 42, 43, 44, 45, 46] (by decide +kernel) (by decide +kernel)
set_option maxRecDepth 20000 in
theorem gX3_take_X3_refer : GoodIn wsX3_take (wsV RX3 63 RX3 yX3_refer wsX3_refer) := goodIn_app (goodIn_of _ (by decide +kernel)) ggX3_take_X3_refer
theorem dX3_take_0 : decode cX3_take 0 = .ok (.aload_n 0, 1) := by decide +kernel
theorem dX3_take_1 : decode cX3_take 1 = .ok (.getfield 29, 3) := by decide +kernel
theorem dX3_take_4 : decode cX3_take 4 = .ok (.aload_n 0, 1) := by decide +kernel
theorem dX3_take_5 : decode cX3_take 5 = .ok (.getfield 60, 3) := by decide +kernel
theorem dX3_take_8 : decode cX3_take 8 = .ok (.iaload, 1) := by decide +kernel
theorem dX3_take_9 : decode cX3_take 9 = .ok (.istore_n 1, 1) := by decide +kernel
theorem dX3_take_10 : decode cX3_take 10 = .ok (.aload_n 0, 1) := by decide +kernel
theorem dX3_take_11 : decode cX3_take 11 = .ok (.getfield 32, 3) := by decide +kernel
theorem dX3_take_14 : decode cX3_take 14 = .ok (.aload_n 0, 1) := by decide +kernel
theorem dX3_take_15 : decode cX3_take 15 = .ok (.getfield 60, 3) := by decide +kernel
theorem dX3_take_18 : decode cX3_take 18 = .ok (.iaload, 1) := by decide +kernel
theorem dX3_take_19 : decode cX3_take 19 = .ok (.istore_n 2, 1) := by decide +kernel
theorem dX3_take_20 : decode cX3_take 20 = .ok (.aload_n 0, 1) := by decide +kernel
theorem dX3_take_21 : decode cX3_take 21 = .ok (.dup, 1) := by decide +kernel
theorem dX3_take_22 : decode cX3_take 22 = .ok (.getfield 60, 3) := by decide +kernel
theorem dX3_take_25 : decode cX3_take 25 = .ok (.iconst 1, 1) := by decide +kernel
theorem dX3_take_26 : decode cX3_take 26 = .ok (.iadd, 1) := by decide +kernel
theorem dX3_take_27 : decode cX3_take 27 = .ok (.putfield 60, 3) := by decide +kernel
theorem dX3_take_30 : decode cX3_take 30 = .ok (.aload_n 0, 1) := by decide +kernel
theorem dX3_take_31 : decode cX3_take 31 = .ok (.getfield 45, 3) := by decide +kernel
theorem dX3_take_34 : decode cX3_take 34 = .ok (.iload_n 1, 1) := by decide +kernel
theorem dX3_take_35 : decode cX3_take 35 = .ok (.invokestatic 48, 3) := by decide +kernel
theorem dX3_take_38 : decode cX3_take 38 = .ok (.istore_n 3, 1) := by decide +kernel
theorem dX3_take_39 : decode cX3_take 39 = .ok (.aload_n 0, 1) := by decide +kernel
theorem dX3_take_40 : decode cX3_take 40 = .ok (.getfield 16, 3) := by decide +kernel
theorem dX3_take_43 : decode cX3_take 43 = .ok (.iload_n 3, 1) := by decide +kernel
theorem dX3_take_44 : decode cX3_take 44 = .ok (.iaload, 1) := by decide +kernel
theorem dX3_take_45 : decode cX3_take 45 = .ok (.iconst (-1), 1) := by decide +kernel
theorem dX3_take_46 : decode cX3_take 46 = .ok (.if_icmp .ne 5, 3) := by decide +kernel
theorem dX3_take_49 : decode cX3_take 49 = .ok (.iconst 1, 1) := by decide +kernel
theorem dX3_take_50 : decode cX3_take 50 = .ok (.ireturn, 1) := by decide +kernel
theorem dX3_take_51 : decode cX3_take 51 = .ok (.aload_n 0, 1) := by decide +kernel
theorem dX3_take_52 : decode cX3_take 52 = .ok (.invokevirtual 52, 3) := by decide +kernel
theorem dX3_take_55 : decode cX3_take 55 = .ok (.aload_n 0, 1) := by decide +kernel
theorem dX3_take_56 : decode cX3_take 56 = .ok (.getfield 16, 3) := by decide +kernel
theorem dX3_take_59 : decode cX3_take 59 = .ok (.iload_n 3, 1) := by decide +kernel
theorem dX3_take_60 : decode cX3_take 60 = .ok (.iaload, 1) := by decide +kernel
theorem dX3_take_61 : decode cX3_take 61 = .ok (.invokestatic 48, 3) := by decide +kernel
theorem dX3_take_64 : decode cX3_take 64 = .ok (.iconst 1, 1) := by decide +kernel
theorem dX3_take_65 : decode cX3_take 65 = .ok (.iadd, 1) := by decide +kernel
theorem dX3_take_66 : decode cX3_take 66 = .ok (.iload_n 2, 1) := by decide +kernel
theorem dX3_take_67 : decode cX3_take 67 = .ok (.iadd, 1) := by decide +kernel
theorem dX3_take_68 : decode cX3_take 68 = .ok (.istore 4, 2) := by decide +kernel
theorem dX3_take_70 : decode cX3_take 70 = .ok (.aload_n 0, 1) := by decide +kernel
theorem dX3_take_71 : decode cX3_take 71 = .ok (.getfield 7, 3) := by decide +kernel
theorem dX3_take_74 : decode cX3_take 74 = .ok (.iload_n 3, 1) := by decide +kernel
theorem dX3_take_75 : decode cX3_take 75 = .ok (.iconst 1, 1) := by decide +kernel
theorem dX3_take_76 : decode cX3_take 76 = .ok (.iadd, 1) := by decide +kernel
theorem dX3_take_77 : decode cX3_take 77 = .ok (.iload_n 2, 1) := by decide +kernel
theorem dX3_take_78 : decode cX3_take 78 = .ok (.iadd, 1) := by decide +kernel
theorem dX3_take_79 : decode cX3_take 79 = .ok (.iaload, 1) := by decide +kernel
theorem dX3_take_80 : decode cX3_take 80 = .ok (.ifCond .eq 22, 3) := by decide +kernel
theorem dX3_take_83 : decode cX3_take 83 = .ok (.iconst 1, 1) := by decide +kernel
theorem dX3_take_84 : decode cX3_take 84 = .ok (.aload_n 0, 1) := by decide +kernel
theorem dX3_take_85 : decode cX3_take 85 = .ok (.iload 4, 2) := by decide +kernel
theorem dX3_take_87 : decode cX3_take 87 = .ok (.aload_n 0, 1) := by decide +kernel
theorem dX3_take_88 : decode cX3_take 88 = .ok (.getfield 13, 3) := by decide +kernel
theorem dX3_take_91 : decode cX3_take 91 = .ok (.iload_n 3, 1) := by decide +kernel
theorem dX3_take_92 : decode cX3_take 92 = .ok (.iconst 1, 1) := by decide +kernel
theorem dX3_take_93 : decode cX3_take 93 = .ok (.iadd, 1) := by decide +kernel
theorem dX3_take_94 : decode cX3_take 94 = .ok (.iload_n 2, 1) := by decide +kernel
theorem dX3_take_95 : decode cX3_take 95 = .ok (.iadd, 1) := by decide +kernel
theorem dX3_take_96 : decode cX3_take 96 = .ok (.iaload, 1) := by decide +kernel
theorem dX3_take_97 : decode cX3_take 97 = .ok (.invokevirtual 63, 3) := by decide +kernel
theorem dX3_take_100 : decode cX3_take 100 = .ok (.iadd, 1) := by decide +kernel
theorem dX3_take_101 : decode cX3_take 101 = .ok (.ireturn, 1) := by decide +kernel
theorem dX3_take_102 : decode cX3_take 102 = .ok (.aload_n 0, 1) := by decide +kernel
theorem dX3_take_103 : decode cX3_take 103 = .ok (.getfield 7, 3) := by decide +kernel
theorem dX3_take_106 : decode cX3_take 106 = .ok (.iload 4, 2) := by decide +kernel
theorem dX3_take_108 : decode cX3_take 108 = .ok (.iconst 0, 1) := by decide +kernel
theorem dX3_take_109 : decode cX3_take 109 = .ok (.iastore, 1) := by decide +kernel
theorem dX3_take_110 : decode cX3_take 110 = .ok (.aload_n 0, 1) := by decide +kernel
theorem dX3_take_111 : decode cX3_take 111 = .ok (.getfield 13, 3) := by decide +kernel
theorem dX3_take_114 : decode cX3_take 114 = .ok (.iload 4, 2) := by decide +kernel
theorem dX3_take_116 : decode cX3_take 116 = .ok (.aload_n 0, 1) := by decide +kernel
theorem dX3_take_117 : decode cX3_take 117 = .ok (.getfield 13, 3) := by decide +kernel
theorem dX3_take_120 : decode cX3_take 120 = .ok (.iload_n 3, 1) := by decide +kernel
theorem dX3_take_121 : decode cX3_take 121 = .ok (.iconst 1, 1) := by decide +kernel
theorem dX3_take_122 : decode cX3_take 122 = .ok (.iadd, 1) := by decide +kernel
theorem dX3_take_123 : decode cX3_take 123 = .ok (.iload_n 2, 1) := by decide +kernel
theorem dX3_take_124 : decode cX3_take 124 = .ok (.iadd, 1) := by decide +kernel
theorem dX3_take_125 : decode cX3_take 125 = .ok (.iaload, 1) := by decide +kernel
theorem dX3_take_126 : decode cX3_take 126 = .ok (.iastore, 1) := by decide +kernel
theorem dX3_take_127 : decode cX3_take 127 = .ok (.iconst 1, 1) := by decide +kernel
theorem dX3_take_128 : decode cX3_take 128 = .ok (.ireturn, 1) := by decide +kernel
set_option maxRecDepth 20000 in
theorem ggX3_look_X3_other : GoodIn wsX3_look wsX3_other := goodIn_r _ [9, 3, 23, 24, 25, 26, 27, 28, 29, 30, 31, 32, 33, 34, 35, 36, 37, 38, 39, 40, 41, 42, 43, 44] (by decide +kernel) (by decide +kernel)
set_option maxRecDepth 20000 in
theorem gX3_look_X3_other : GoodIn wsX3_look (wsV RX3 52 RX3 yX3_other wsX3_other) := goodIn_app (goodIn_of _ (by decide +kernel)) ggX3_look_X3_other
set_option maxRecDepth 20000 in
theorem ggX3_look_X3_at : GoodIn wsX3_look wsX3_at := goodIn_r _ [12] (by decide +kernel) (by decide +kernel)
set_option maxRecDepth 20000 in
theorem gX3_look_X3_at : GoodIn wsX3_look (va_wsS RX3 48 yX3_at wsX3_at) := goodIn_app (goodIn_of _ (by decide +kernel)) ggX3_look_X3_at
set_option maxRecDepth 20000 in
theorem ggX3_look_X3_refer : GoodIn wsX3_look wsX3_refer := goodIn_r _ [16, 2, 4, 17, 3, 18, 19, 20, 8, 21, 22, 10, 11, 12, 5, 6, 7, 9, 23, 24, 25, 26, 27, 28, 29, 30, 31, 32, 33, 34, 35, 36, 37, 38, 39, 40, 41, 42, 43, 44] (by decide +kernel) (by decide +kernel)
set_option maxRecDepth 20000 in
theorem gX3_look_X3_refer : GoodIn wsX3_look (wsV RX3 63 RX3 yX3_refer wsX3_refer) := goodIn_app (goodIn_of _ (by decide +kernel)) ggX3_look_X3_refer
theorem dX3_look_0 : decode cX3_look 0 = .ok (.aload_n 0, 1) := by decide +kernel
theorem dX3_look_1 : decode cX3_look 1 = .ok (.invokevirtual 52, 3) := by decide +kernel
theorem dX3_look_4 : decode cX3_look 4 = .ok (.aload_n 0, 1) := by decide +kernel
theorem dX3_look_5 : decode cX3_look 5 = .ok (.getfield 66, 3) := by decide +kernel
theorem dX3_look_8 : decode cX3_look 8 = .ok (.invokestatic 48, 3) := by decide +kernel
theorem dX3_look_11 : decode cX3_look 11 = .ok (.istore_n 1, 1) := by decide +kernel
theorem dX3_look_12 : decode cX3_look 12 = .ok (.aload_n 0, 1) := by decide +kernel
theorem dX3_look_13 : decode cX3_look 13 = .ok (.dup, 1) := by decide +kernel
theorem dX3_look_14 : decode cX3_look 14 = .ok (.getfield 66, 3) := by decide +kernel
theorem dX3_look_17 : decode cX3_look 17 = .ok (.iconst 1, 1) := by decide +kernel
theorem dX3_look_18 : decode cX3_look 18 = .ok (.iadd, 1) := by decide +kernel
theorem dX3_look_19 : decode cX3_look 19 = .ok (.putfield 66, 3) := by decide +kernel
theorem dX3_look_22 : decode cX3_look 22 = .ok (.iconst 1, 1) := by decide +kernel
theorem dX3_look_23 : decode cX3_look 23 = .ok (.aload_n 0, 1) := by decide +kernel
theorem dX3_look_24 : decode cX3_look 24 = .ok (.getfield 7, 3) := by decide +kernel
theorem dX3_look_27 : decode cX3_look 27 = .ok (.iload_n 1, 1) := by decide +kernel
theorem dX3_look_28 : decode cX3_look 28 = .ok (.iaload, 1) := by decide +kernel
theorem dX3_look_29 : decode cX3_look 29 = .ok (.iconst 1, 1) := by decide +kernel
theorem dX3_look_30 : decode cX3_look 30 = .ok (.aload_n 0, 1) := by decide +kernel
theorem dX3_look_31 : decode cX3_look 31 = .ok (.getfield 45, 3) := by decide +kernel
theorem dX3_look_34 : decode cX3_look 34 = .ok (.iadd, 1) := by decide +kernel
theorem dX3_look_35 : decode cX3_look 35 = .ok (.if_icmp .ne 17, 3) := by decide +kernel
theorem dX3_look_38 : decode cX3_look 38 = .ok (.aload_n 0, 1) := by decide +kernel
theorem dX3_look_39 : decode cX3_look 39 = .ok (.iload_n 1, 1) := by decide +kernel
theorem dX3_look_40 : decode cX3_look 40 = .ok (.aload_n 0, 1) := by decide +kernel
theorem dX3_look_41 : decode cX3_look 41 = .ok (.getfield 13, 3) := by decide +kernel
theorem dX3_look_44 : decode cX3_look 44 = .ok (.iload_n 1, 1) := by decide +kernel
theorem dX3_look_45 : decode cX3_look 45 = .ok (.iaload, 1) := by decide +kernel
theorem dX3_look_46 : decode cX3_look 46 = .ok (.invokevirtual 63, 3) := by decide +kernel
theorem dX3_look_49 : decode cX3_look 49 = .ok (.goto 4, 3) := by decide +kernel
theorem dX3_look_52 : decode cX3_look 52 = .ok (.iconst 0, 1) := by decide +kernel
theorem dX3_look_53 : decode cX3_look 53 = .ok (.iadd, 1) := by decide +kernel
theorem dX3_look_54 : decode cX3_look 54 = .ok (.ireturn, 1) := by decide +kernel
set_option maxRecDepth 20000 in
theorem ggX3_nextRoot_X3_at : GoodIn wsX3_nextRoot wsX3_at := goodIn_r _ [8] (by decide +kernel) (by decide +kernel)
set_option maxRecDepth 20000 in
theorem gX3_nextRoot_X3_at : GoodIn wsX3_nextRoot (va_wsS RX3 48 yX3_at wsX3_at) := goodIn_app (goodIn_of _ (by decide +kernel)) ggX3_nextRoot_X3_at
theorem dX3_nextRoot_0 : decode cX3_nextRoot 0 = .ok (.iconst 0, 1) := by decide +kernel
theorem dX3_nextRoot_1 : decode cX3_nextRoot 1 = .ok (.istore_n 1, 1) := by decide +kernel
theorem dX3_nextRoot_2 : decode cX3_nextRoot 2 = .ok (.iload_n 1, 1) := by decide +kernel
theorem dX3_nextRoot_3 : decode cX3_nextRoot 3 = .ok (.bipush 16, 2) := by decide +kernel
theorem dX3_nextRoot_5 : decode cX3_nextRoot 5 = .ok (.if_icmp .ge 53, 3) := by decide +kernel
theorem dX3_nextRoot_8 : decode cX3_nextRoot 8 = .ok (.aload_n 0, 1) := by decide +kernel
theorem dX3_nextRoot_9 : decode cX3_nextRoot 9 = .ok (.getfield 22, 3) := by decide +kernel
theorem dX3_nextRoot_12 : decode cX3_nextRoot 12 = .ok (.iload_n 1, 1) := by decide +kernel
theorem dX3_nextRoot_13 : decode cX3_nextRoot 13 = .ok (.baload, 1) := by decide +kernel
theorem dX3_nextRoot_14 : decode cX3_nextRoot 14 = .ok (.ifCond .eq 38, 3) := by decide +kernel
theorem dX3_nextRoot_17 : decode cX3_nextRoot 17 = .ok (.aload_n 0, 1) := by decide +kernel
theorem dX3_nextRoot_18 : decode cX3_nextRoot 18 = .ok (.getfield 16, 3) := by decide +kernel
theorem dX3_nextRoot_21 : decode cX3_nextRoot 21 = .ok (.aload_n 0, 1) := by decide +kernel
theorem dX3_nextRoot_22 : decode cX3_nextRoot 22 = .ok (.getfield 45, 3) := by decide +kernel
theorem dX3_nextRoot_25 : decode cX3_nextRoot 25 = .ok (.aload_n 0, 1) := by decide +kernel
theorem dX3_nextRoot_26 : decode cX3_nextRoot 26 = .ok (.getfield 22, 3) := by decide +kernel
theorem dX3_nextRoot_29 : decode cX3_nextRoot 29 = .ok (.iload_n 1, 1) := by decide +kernel
theorem dX3_nextRoot_30 : decode cX3_nextRoot 30 = .ok (.baload, 1) := by decide +kernel
theorem dX3_nextRoot_31 : decode cX3_nextRoot 31 = .ok (.ifCond .eq 12, 3) := by decide +kernel
theorem dX3_nextRoot_34 : decode cX3_nextRoot 34 = .ok (.aload_n 0, 1) := by decide +kernel
theorem dX3_nextRoot_35 : decode cX3_nextRoot 35 = .ok (.getfield 26, 3) := by decide +kernel
theorem dX3_nextRoot_38 : decode cX3_nextRoot 38 = .ok (.iload_n 1, 1) := by decide +kernel
theorem dX3_nextRoot_39 : decode cX3_nextRoot 39 = .ok (.iaload, 1) := by decide +kernel
theorem dX3_nextRoot_40 : decode cX3_nextRoot 40 = .ok (.goto 4, 3) := by decide +kernel
theorem dX3_nextRoot_43 : decode cX3_nextRoot 43 = .ok (.iconst 0, 1) := by decide +kernel
theorem dX3_nextRoot_44 : decode cX3_nextRoot 44 = .ok (.invokestatic 48, 3) := by decide +kernel
theorem dX3_nextRoot_47 : decode cX3_nextRoot 47 = .ok (.iaload, 1) := by decide +kernel
theorem dX3_nextRoot_48 : decode cX3_nextRoot 48 = .ok (.iconst (-1), 1) := by decide +kernel
theorem dX3_nextRoot_49 : decode cX3_nextRoot 49 = .ok (.if_icmp .eq 9, 3) := by decide +kernel
theorem dX3_nextRoot_52 : decode cX3_nextRoot 52 = .ok (.iinc 1 1, 3) := by decide +kernel
theorem dX3_nextRoot_55 : decode cX3_nextRoot 55 = .ok (.goto (-53), 3) := by decide +kernel
theorem dX3_nextRoot_58 : decode cX3_nextRoot 58 = .ok (.iload_n 1, 1) := by decide +kernel
theorem dX3_nextRoot_59 : decode cX3_nextRoot 59 = .ok (.ireturn, 1) := by decide +kernel
set_option maxRecDepth 20000 in
theorem ggX3_flip_X3_at : GoodIn wsX3_flip wsX3_at := goodIn_r _ [14] (by decide +kernel) (by decide +kernel)
set_option maxRecDepth 20000 in
theorem gX3_flip_X3_at : GoodIn wsX3_flip (va_wsS RX3 48 yX3_at wsX3_at) := goodIn_app (goodIn_of _ (by decide +kernel)) ggX3_flip_X3_at
set_option maxRecDepth 20000 in
theorem ggX3_flip_X3_other : GoodIn wsX3_flip wsX3_other := goodIn_r _ [18, 4, 19, 20, 21, 22, 23, 24, 25, 26, 27, 28, 29, 30, 31, 32, 33, 34, 35, 36, 37, 38, 39, 40] (by decide +kernel) (by decide +kernel)
set_option maxRecDepth 20000 in
theorem gX3_flip_X3_other : GoodIn wsX3_flip (wsV RX3 52 RX3 yX3_other wsX3_other) := goodIn_app (goodIn_of _ (by decide +kernel)) ggX3_flip_X3_other
theorem dX3_flip_0 : decode cX3_flip 0 = .ok (.iconst 0, 1) := by decide +kernel
theorem dX3_flip_1 : decode cX3_flip 1 = .ok (.istore_n 1, 1) := by decide +kernel
theorem dX3_flip_2 : decode cX3_flip 2 = .ok (.iload_n 1, 1) := by decide +kernel
theorem dX3_flip_3 : decode cX3_flip 3 = .ok (.bipush 16, 2) := by decide +kernel
theorem dX3_flip_5 : decode cX3_flip 5 = .ok (.if_icmp .ge 51, 3) := by decide +kernel
theorem dX3_flip_8 : decode cX3_flip 8 = .ok (.aload_n 0, 1) := by decide +kernel
theorem dX3_flip_9 : decode cX3_flip 9 = .ok (.getfield 26, 3) := by decide +kernel
theorem dX3_flip_12 : decode cX3_flip 12 = .ok (.iload_n 1, 1) := by decide +kernel
theorem dX3_flip_13 : decode cX3_flip 13 = .ok (.aload_n 0, 1) := by decide +kernel
theorem dX3_flip_14 : decode cX3_flip 14 = .ok (.getfield 22, 3) := by decide +kernel
theorem dX3_flip_17 : decode cX3_flip 17 = .ok (.iload_n 1, 1) := by decide +kernel
theorem dX3_flip_18 : decode cX3_flip 18 = .ok (.baload, 1) := by decide +kernel
theorem dX3_flip_19 : decode cX3_flip 19 = .ok (.ifCond .eq 24, 3) := by decide +kernel
theorem dX3_flip_22 : decode cX3_flip 22 = .ok (.aload_n 0, 1) := by decide +kernel
theorem dX3_flip_23 : decode cX3_flip 23 = .ok (.getfield 16, 3) := by decide +kernel
theorem dX3_flip_26 : decode cX3_flip 26 = .ok (.aload_n 0, 1) := by decide +kernel
theorem dX3_flip_27 : decode cX3_flip 27 = .ok (.getfield 45, 3) := by decide +kernel
theorem dX3_flip_30 : decode cX3_flip 30 = .ok (.aload_n 0, 1) := by decide +kernel
theorem dX3_flip_31 : decode cX3_flip 31 = .ok (.getfield 26, 3) := by decide +kernel
theorem dX3_flip_34 : decode cX3_flip 34 = .ok (.iload_n 1, 1) := by decide +kernel
theorem dX3_flip_35 : decode cX3_flip 35 = .ok (.iaload, 1) := by decide +kernel
theorem dX3_flip_36 : decode cX3_flip 36 = .ok (.invokestatic 48, 3) := by decide +kernel
theorem dX3_flip_39 : decode cX3_flip 39 = .ok (.iaload, 1) := by decide +kernel
theorem dX3_flip_40 : decode cX3_flip 40 = .ok (.goto 9, 3) := by decide +kernel
theorem dX3_flip_43 : decode cX3_flip 43 = .ok (.aload_n 0, 1) := by decide +kernel
theorem dX3_flip_44 : decode cX3_flip 44 = .ok (.getfield 26, 3) := by decide +kernel
theorem dX3_flip_47 : decode cX3_flip 47 = .ok (.iload_n 1, 1) := by decide +kernel
theorem dX3_flip_48 : decode cX3_flip 48 = .ok (.iaload, 1) := by decide +kernel
theorem dX3_flip_49 : decode cX3_flip 49 = .ok (.iastore, 1) := by decide +kernel
theorem dX3_flip_50 : decode cX3_flip 50 = .ok (.iinc 1 1, 3) := by decide +kernel
theorem dX3_flip_53 : decode cX3_flip 53 = .ok (.goto (-51), 3) := by decide +kernel
theorem dX3_flip_56 : decode cX3_flip 56 = .ok (.aload_n 0, 1) := by decide +kernel
theorem dX3_flip_57 : decode cX3_flip 57 = .ok (.getfield 19, 3) := by decide +kernel
theorem dX3_flip_60 : decode cX3_flip 60 = .ok (.aload_n 0, 1) := by decide +kernel
theorem dX3_flip_61 : decode cX3_flip 61 = .ok (.getfield 45, 3) := by decide +kernel
theorem dX3_flip_64 : decode cX3_flip 64 = .ok (.iconst 0, 1) := by decide +kernel
theorem dX3_flip_65 : decode cX3_flip 65 = .ok (.iastore, 1) := by decide +kernel
theorem dX3_flip_66 : decode cX3_flip 66 = .ok (.aload_n 0, 1) := by decide +kernel
theorem dX3_flip_67 : decode cX3_flip 67 = .ok (.aload_n 0, 1) := by decide +kernel
theorem dX3_flip_68 : decode cX3_flip 68 = .ok (.invokevirtual 52, 3) := by decide +kernel
theorem dX3_flip_71 : decode cX3_flip 71 = .ok (.putfield 45, 3) := by decide +kernel
theorem dX3_flip_74 : decode cX3_flip 74 = .ok (.aload_n 0, 1) := by decide +kernel
theorem dX3_flip_75 : decode cX3_flip 75 = .ok (.iconst 0, 1) := by decide +kernel
theorem dX3_flip_76 : decode cX3_flip 76 = .ok (.putfield 69, 3) := by decide +kernel
theorem dX3_flip_79 : decode cX3_flip 79 = .ok (.aload_n 0, 1) := by decide +kernel
theorem dX3_flip_80 : decode cX3_flip 80 = .ok (.iconst 0, 1) := by decide +kernel
theorem dX3_flip_81 : decode cX3_flip 81 = .ok (.putfield 66, 3) := by decide +kernel
theorem dX3_flip_84 : decode cX3_flip 84 = .ok (.aload_n 0, 1) := by decide +kernel
theorem dX3_flip_85 : decode cX3_flip 85 = .ok (.iconst 0, 1) := by decide +kernel
theorem dX3_flip_86 : decode cX3_flip 86 = .ok (.putfield 73, 3) := by decide +kernel
theorem dX3_flip_89 : decode cX3_flip 89 = .ok (.aload_n 0, 1) := by decide +kernel
theorem dX3_flip_90 : decode cX3_flip 90 = .ok (.iconst 0, 1) := by decide +kernel
theorem dX3_flip_91 : decode cX3_flip 91 = .ok (.putfield 60, 3) := by decide +kernel
theorem dX3_flip_94 : decode cX3_flip 94 = .ok (.aload_n 0, 1) := by decide +kernel
theorem dX3_flip_95 : decode cX3_flip 95 = .ok (.dup, 1) := by decide +kernel
theorem dX3_flip_96 : decode cX3_flip 96 = .ok (.getfield 76, 3) := by decide +kernel
theorem dX3_flip_99 : decode cX3_flip 99 = .ok (.iconst 1, 1) := by decide +kernel
theorem dX3_flip_100 : decode cX3_flip 100 = .ok (.iadd, 1) := by decide +kernel
theorem dX3_flip_101 : decode cX3_flip 101 = .ok (.putfield 76, 3) := by decide +kernel
theorem dX3_flip_104 : decode cX3_flip 104 = .ok (.bipush 16, 2) := by decide +kernel
theorem dX3_flip_106 : decode cX3_flip 106 = .ok (.ireturn, 1) := by decide +kernel
set_option maxRecDepth 20000 in
theorem ggX3_step_X3_take : GoodIn wsX3_step wsX3_take := goodIn_r _ [11, 12, 1, 13, 14, 15, 16, 17, 18, 19, 10, 20, 21, 22, 23, 24, 25, 26, 27, 28, 29, 30, 31, 32, 4, 48, 49, 50, 51, 52, 53, 54, 55, 56, 57, 58, 59, 60, 61, 62, 63, 64, 65, 66, 67, 68, 69] (by decide +kernel) (by decide +kernel)
set_option maxRecDepth 20000 in
theorem gX3_step_X3_take : GoodIn wsX3_step (wsV RX3 79 RX3 yX3_take wsX3_take) := goodIn_app (goodIn_of _ (by decide +kernel)) ggX3_step_X3_take
set_option maxRecDepth 20000 in
theorem ggX3_step_X3_other : GoodIn wsX3_step wsX3_other := goodIn_r _ [24, 14, 48, 49, 50, 51, 52, 53, 54, 55, 56, 57, 58, 59, 60, 61, 62, 63, 64, 65, 66, 67, 68, 69] (by decide +kernel) (by decide +kernel)
set_option maxRecDepth 20000 in
theorem gX3_step_X3_other : GoodIn wsX3_step (wsV RX3 52 RX3 yX3_other wsX3_other) := goodIn_app (goodIn_of _ (by decide +kernel)) ggX3_step_X3_other
set_option maxRecDepth 20000 in
theorem ggX3_step_X3_look : GoodIn wsX3_step wsX3_look := goodIn_r _ [36, 3, 16, 14, 17, 21, 22, 23, 10, 24, 18, 19, 20, 25, 26, 27, 28, 15, 29, 30, 31, 32, 4, 48, 49, 50, 51, 52, 53, 54, 55, 56, 57, 58, 59, 60, 61, 62, 63, 64, 65, 66, 67, 68, 69] (by decide +kernel) (by decide +kernel)
set_option maxRecDepth 20000 in
theorem gX3_step_X3_look : GoodIn wsX3_step (wsV RX3 82 RX3 yX3_look wsX3_look) := goodIn_app (goodIn_of _ (by decide +kernel)) ggX3_step_X3_look
set_option maxRecDepth 20000 in
theorem ggX3_step_X3_nextRoot : GoodIn wsX3_step wsX3_nextRoot := goodIn_r _ [40, 41, 15, 14, 5, 18, 19, 10, 20, 48, 49, 50, 51, 52, 53, 54, 55, 56, 57, 58, 59, 60, 61, 62, 63, 64, 65, 66, 67, 68, 69] (by decide +kernel) (by decide +kernel)
set_option maxRecDepth 20000 in
theorem gX3_step_X3_nextRoot : GoodIn wsX3_step (wsV RX3 85 RX3 yX3_nextRoot wsX3_nextRoot) := goodIn_app (goodIn_of _ (by decide +kernel)) ggX3_step_X3_nextRoot
set_option maxRecDepth 20000 in
theorem ggX3_step_X3_replicate : GoodIn wsX3_step wsX3_replicate := goodIn_r _ [32, 14, 15, 17, 4, 16, 18, 19, 10, 20, 21, 22, 23, 24, 48, 49, 50, 51, 52, 53, 54, 55, 56, 57, 58, 59, 60, 61, 62, 63, 64, 65, 66, 67, 68, 69] (by decide +kernel) (by decide +kernel)
set_option maxRecDepth 20000 in
theorem gX3_step_X3_replicate : GoodIn wsX3_step (wsV RX3 56 RX3 yX3_replicate wsX3_replicate) := goodIn_app (goodIn_of _ (by decide +kernel)) ggX3_step_X3_replicate
set_option maxRecDepth 20000 in
theorem ggX3_step_X3_flip : GoodIn wsX3_step wsX3_flip := goodIn_r _ [45, 5, 41, 15, 14, 4, 46, 3, 2, 1, 47, 18, 19, 10, 20, 21, 22, 23, 24, 48, 49, 50, 51, 52, 53, 54, 55, 56, 57, 58, 59, 60, 61, 62, 63, 64, 65, 66, 67, 68, 69] (by decide +kernel) (by decide +kernel)
set_option maxRecDepth 20000 in
theorem gX3_step_X3_flip : GoodIn wsX3_step (wsV RX3 88 RX3 yX3_flip wsX3_flip) := goodIn_app (goodIn_of _ (by decide +kernel)) ggX3_step_X3_flip
theorem dX3_step_0 : decode cX3_step 0 = .ok (.iconst 0, 1) := by decide +kernel
theorem dX3_step_1 : decode cX3_step 1 = .ok (.istore_n 1, 1) := by decide +kernel
theorem dX3_step_2 : decode cX3_step 2 = .ok (.aload_n 0, 1) := by decide +kernel
theorem dX3_step_3 : decode cX3_step 3 = .ok (.getfield 60, 3) := by decide +kernel
theorem dX3_step_6 : decode cX3_step 6 = .ok (.aload_n 0, 1) := by decide +kernel
theorem dX3_step_7 : decode cX3_step 7 = .ok (.getfield 73, 3) := by decide +kernel
theorem dX3_step_10 : decode cX3_step 10 = .ok (.if_icmp .ge 11, 3) := by decide +kernel
theorem dX3_step_13 : decode cX3_step 13 = .ok (.aload_n 0, 1) := by decide +kernel
theorem dX3_step_14 : decode cX3_step 14 = .ok (.invokevirtual 79, 3) := by decide +kernel
theorem dX3_step_17 : decode cX3_step 17 = .ok (.istore_n 1, 1) := by decide +kernel
theorem dX3_step_18 : decode cX3_step 18 = .ok (.goto 58, 3) := by decide +kernel
theorem dX3_step_21 : decode cX3_step 21 = .ok (.aload_n 0, 1) := by decide +kernel
theorem dX3_step_22 : decode cX3_step 22 = .ok (.getfield 66, 3) := by decide +kernel
theorem dX3_step_25 : decode cX3_step 25 = .ok (.aload_n 0, 1) := by decide +kernel
theorem dX3_step_26 : decode cX3_step 26 = .ok (.getfield 19, 3) := by decide +kernel
theorem dX3_step_29 : decode cX3_step 29 = .ok (.aload_n 0, 1) := by decide +kernel
theorem dX3_step_30 : decode cX3_step 30 = .ok (.invokevirtual 52, 3) := by decide +kernel
theorem dX3_step_33 : decode cX3_step 33 = .ok (.iaload, 1) := by decide +kernel
theorem dX3_step_34 : decode cX3_step 34 = .ok (.if_icmp .ge 11, 3) := by decide +kernel
theorem dX3_step_37 : decode cX3_step 37 = .ok (.aload_n 0, 1) := by decide +kernel
theorem dX3_step_38 : decode cX3_step 38 = .ok (.invokevirtual 82, 3) := by decide +kernel
theorem dX3_step_41 : decode cX3_step 41 = .ok (.istore_n 1, 1) := by decide +kernel
theorem dX3_step_42 : decode cX3_step 42 = .ok (.goto 34, 3) := by decide +kernel
theorem dX3_step_45 : decode cX3_step 45 = .ok (.aload_n 0, 1) := by decide +kernel
theorem dX3_step_46 : decode cX3_step 46 = .ok (.invokevirtual 85, 3) := by decide +kernel
theorem dX3_step_49 : decode cX3_step 49 = .ok (.bipush 16, 2) := by decide +kernel
theorem dX3_step_51 : decode cX3_step 51 = .ok (.if_icmp .ge 20, 3) := by decide +kernel
theorem dX3_step_54 : decode cX3_step 54 = .ok (.aload_n 0, 1) := by decide +kernel
theorem dX3_step_55 : decode cX3_step 55 = .ok (.aload_n 0, 1) := by decide +kernel
theorem dX3_step_56 : decode cX3_step 56 = .ok (.getfield 26, 3) := by decide +kernel
theorem dX3_step_59 : decode cX3_step 59 = .ok (.aload_n 0, 1) := by decide +kernel
theorem dX3_step_60 : decode cX3_step 60 = .ok (.invokevirtual 85, 3) := by decide +kernel
theorem dX3_step_63 : decode cX3_step 63 = .ok (.iaload, 1) := by decide +kernel
theorem dX3_step_64 : decode cX3_step 64 = .ok (.invokevirtual 56, 3) := by decide +kernel
theorem dX3_step_67 : decode cX3_step 67 = .ok (.istore_n 1, 1) := by decide +kernel
theorem dX3_step_68 : decode cX3_step 68 = .ok (.goto 8, 3) := by decide +kernel
theorem dX3_step_71 : decode cX3_step 71 = .ok (.aload_n 0, 1) := by decide +kernel
theorem dX3_step_72 : decode cX3_step 72 = .ok (.invokevirtual 88, 3) := by decide +kernel
theorem dX3_step_75 : decode cX3_step 75 = .ok (.istore_n 1, 1) := by decide +kernel
theorem dX3_step_76 : decode cX3_step 76 = .ok (.aload_n 0, 1) := by decide +kernel
theorem dX3_step_77 : decode cX3_step 77 = .ok (.dup, 1) := by decide +kernel
theorem dX3_step_78 : decode cX3_step 78 = .ok (.getfield 91, 3) := by decide +kernel
theorem dX3_step_81 : decode cX3_step 81 = .ok (.iload_n 1, 1) := by decide +kernel
theorem dX3_step_82 : decode cX3_step 82 = .ok (.iadd, 1) := by decide +kernel
theorem dX3_step_83 : decode cX3_step 83 = .ok (.putfield 91, 3) := by decide +kernel
theorem dX3_step_86 : decode cX3_step 86 = .ok (.iload_n 1, 1) := by decide +kernel
theorem dX3_step_87 : decode cX3_step 87 = .ok (.ireturn, 1) := by decide +kernel
set_option maxRecDepth 20000 in
theorem ggX3_work_X3_step : GoodIn wsX3_work wsX3_step := goodIn_r _ [6, 7, 8, 9, 10, 11, 12, 13, 14, 15, 5, 16, 17, 18, 19, 20, 21, 22, 23, 24, 25, 26, 27, 28, 29, 30, 31, 32, 33, 34, 35, 36, 37, 38, 39, 40, 41, 42, 43, 44, 45, 46, 47, 48, 49, 50, 1, 51, 52, 53, 54, 55, 56, 57, 58, 59, 60, 61, 62, 63, 64, 65, 66, 67, 68, 69, 70, 71, 72, 73] (by decide +kernel) (by decide +kernel)
set_option maxRecDepth 20000 in
theorem gX3_work_X3_step : GoodIn wsX3_work (wsV RX3 94 RX3 yX3_step wsX3_step) := goodIn_app (goodIn_of _ (by decide +kernel)) ggX3_work_X3_step
theorem dX3_work_0 : decode cX3_work 0 = .ok (.iconst 0, 1) := by decide +kernel
theorem dX3_work_1 : decode cX3_work 1 = .ok (.istore_n 2, 1) := by decide +kernel
theorem dX3_work_2 : decode cX3_work 2 = .ok (.aload_n 0, 1) := by decide +kernel
theorem dX3_work_3 : decode cX3_work 3 = .ok (.getfield 69, 3) := by decide +kernel
theorem dX3_work_6 : decode cX3_work 6 = .ok (.ifCond .eq 22, 3) := by decide +kernel
theorem dX3_work_9 : decode cX3_work 9 = .ok (.iload_n 1, 1) := by decide +kernel
theorem dX3_work_10 : decode cX3_work 10 = .ok (.ifCond .lt 8, 3) := by decide +kernel
theorem dX3_work_13 : decode cX3_work 13 = .ok (.iload_n 2, 1) := by decide +kernel
theorem dX3_work_14 : decode cX3_work 14 = .ok (.iload_n 1, 1) := by decide +kernel
theorem dX3_work_15 : decode cX3_work 15 = .ok (.if_icmp .ge 13, 3) := by decide +kernel
theorem dX3_work_18 : decode cX3_work 18 = .ok (.iload_n 2, 1) := by decide +kernel
theorem dX3_work_19 : decode cX3_work 19 = .ok (.aload_n 0, 1) := by decide +kernel
theorem dX3_work_20 : decode cX3_work 20 = .ok (.invokevirtual 94, 3) := by decide +kernel
theorem dX3_work_23 : decode cX3_work 23 = .ok (.iadd, 1) := by decide +kernel
theorem dX3_work_24 : decode cX3_work 24 = .ok (.istore_n 2, 1) := by decide +kernel
theorem dX3_work_25 : decode cX3_work 25 = .ok (.goto (-23), 3) := by decide +kernel
theorem dX3_work_28 : decode cX3_work 28 = .ok (.iload_n 2, 1) := by decide +kernel
theorem dX3_work_29 : decode cX3_work 29 = .ok (.ireturn, 1) := by decide +kernel
set_option maxRecDepth 20000 in
theorem ggX3_begin_X3_other : GoodIn wsX3_begin wsX3_other := goodIn_r _ [10, 11, 12, 13, 14, 15, 16, 17, 18, 19, 20, 21, 22, 23, 24, 25, 26, 27, 28, 29, 30, 31, 32, 33] (by decide +kernel) (by decide +kernel)
set_option maxRecDepth 20000 in
theorem gX3_begin_X3_other : GoodIn wsX3_begin (wsV RX3 52 RX3 yX3_other wsX3_other) := goodIn_app (goodIn_of _ (by decide +kernel)) ggX3_begin_X3_other
theorem dX3_begin_0 : decode cX3_begin 0 = .ok (.aload_n 0, 1) := by decide +kernel
theorem dX3_begin_1 : decode cX3_begin 1 = .ok (.getfield 69, 3) := by decide +kernel
theorem dX3_begin_4 : decode cX3_begin 4 = .ok (.ifCond .eq 4, 3) := by decide +kernel
theorem dX3_begin_7 : decode cX3_begin 7 = .ok (.return_, 1) := by decide +kernel
theorem dX3_begin_8 : decode cX3_begin 8 = .ok (.aload_n 0, 1) := by decide +kernel
theorem dX3_begin_9 : decode cX3_begin 9 = .ok (.iconst 1, 1) := by decide +kernel
theorem dX3_begin_10 : decode cX3_begin 10 = .ok (.putfield 69, 3) := by decide +kernel
theorem dX3_begin_13 : decode cX3_begin 13 = .ok (.aload_n 0, 1) := by decide +kernel
theorem dX3_begin_14 : decode cX3_begin 14 = .ok (.iconst 0, 1) := by decide +kernel
theorem dX3_begin_15 : decode cX3_begin 15 = .ok (.putfield 66, 3) := by decide +kernel
theorem dX3_begin_18 : decode cX3_begin 18 = .ok (.aload_n 0, 1) := by decide +kernel
theorem dX3_begin_19 : decode cX3_begin 19 = .ok (.iconst 0, 1) := by decide +kernel
theorem dX3_begin_20 : decode cX3_begin 20 = .ok (.putfield 73, 3) := by decide +kernel
theorem dX3_begin_23 : decode cX3_begin 23 = .ok (.aload_n 0, 1) := by decide +kernel
theorem dX3_begin_24 : decode cX3_begin 24 = .ok (.iconst 0, 1) := by decide +kernel
theorem dX3_begin_25 : decode cX3_begin 25 = .ok (.putfield 60, 3) := by decide +kernel
theorem dX3_begin_28 : decode cX3_begin 28 = .ok (.aload_n 0, 1) := by decide +kernel
theorem dX3_begin_29 : decode cX3_begin 29 = .ok (.getfield 19, 3) := by decide +kernel
theorem dX3_begin_32 : decode cX3_begin 32 = .ok (.aload_n 0, 1) := by decide +kernel
theorem dX3_begin_33 : decode cX3_begin 33 = .ok (.invokevirtual 52, 3) := by decide +kernel
theorem dX3_begin_36 : decode cX3_begin 36 = .ok (.iconst 0, 1) := by decide +kernel
theorem dX3_begin_37 : decode cX3_begin 37 = .ok (.iastore, 1) := by decide +kernel
theorem dX3_begin_38 : decode cX3_begin 38 = .ok (.return_, 1) := by decide +kernel
theorem dX3_open_0 : decode cX3_open 0 = .ok (.aload_n 0, 1) := by decide +kernel
theorem dX3_open_1 : decode cX3_open 1 = .ok (.aload_n 0, 1) := by decide +kernel
theorem dX3_open_2 : decode cX3_open 2 = .ok (.getfield 91, 3) := by decide +kernel
theorem dX3_open_5 : decode cX3_open 5 = .ok (.putfield 97, 3) := by decide +kernel
theorem dX3_open_8 : decode cX3_open 8 = .ok (.return_, 1) := by decide +kernel
theorem dX3_close_0 : decode cX3_close 0 = .ok (.aload_n 0, 1) := by decide +kernel
theorem dX3_close_1 : decode cX3_close 1 = .ok (.aload_n 0, 1) := by decide +kernel
theorem dX3_close_2 : decode cX3_close 2 = .ok (.getfield 91, 3) := by decide +kernel
theorem dX3_close_5 : decode cX3_close 5 = .ok (.aload_n 0, 1) := by decide +kernel
theorem dX3_close_6 : decode cX3_close 6 = .ok (.getfield 97, 3) := by decide +kernel
theorem dX3_close_9 : decode cX3_close 9 = .ok (.isub, 1) := by decide +kernel
theorem dX3_close_10 : decode cX3_close 10 = .ok (.aload_n 0, 1) := by decide +kernel
theorem dX3_close_11 : decode cX3_close 11 = .ok (.getfield 100, 3) := by decide +kernel
theorem dX3_close_14 : decode cX3_close 14 = .ok (.if_icmp .le 15, 3) := by decide +kernel
theorem dX3_close_17 : decode cX3_close 17 = .ok (.aload_n 0, 1) := by decide +kernel
theorem dX3_close_18 : decode cX3_close 18 = .ok (.getfield 91, 3) := by decide +kernel
theorem dX3_close_21 : decode cX3_close 21 = .ok (.aload_n 0, 1) := by decide +kernel
theorem dX3_close_22 : decode cX3_close 22 = .ok (.getfield 97, 3) := by decide +kernel
theorem dX3_close_25 : decode cX3_close 25 = .ok (.isub, 1) := by decide +kernel
theorem dX3_close_26 : decode cX3_close 26 = .ok (.goto 7, 3) := by decide +kernel
theorem dX3_close_29 : decode cX3_close 29 = .ok (.aload_n 0, 1) := by decide +kernel
theorem dX3_close_30 : decode cX3_close 30 = .ok (.getfield 100, 3) := by decide +kernel
theorem dX3_close_33 : decode cX3_close 33 = .ok (.putfield 100, 3) := by decide +kernel
theorem dX3_close_36 : decode cX3_close 36 = .ok (.return_, 1) := by decide +kernel
theorem dX3_isRoot_0 : decode cX3_isRoot 0 = .ok (.iload_n 0, 1) := by decide +kernel
theorem dX3_isRoot_1 : decode cX3_isRoot 1 = .ok (.ifCond .lt 13, 3) := by decide +kernel
theorem dX3_isRoot_4 : decode cX3_isRoot 4 = .ok (.iload_n 0, 1) := by decide +kernel
theorem dX3_isRoot_5 : decode cX3_isRoot 5 = .ok (.bipush 16, 2) := by decide +kernel
theorem dX3_isRoot_7 : decode cX3_isRoot 7 = .ok (.if_icmp .ge 7, 3) := by decide +kernel
theorem dX3_isRoot_10 : decode cX3_isRoot 10 = .ok (.iconst 1, 1) := by decide +kernel
theorem dX3_isRoot_11 : decode cX3_isRoot 11 = .ok (.goto 4, 3) := by decide +kernel
theorem dX3_isRoot_14 : decode cX3_isRoot 14 = .ok (.iconst 0, 1) := by decide +kernel
theorem dX3_isRoot_15 : decode cX3_isRoot 15 = .ok (.ireturn, 1) := by decide +kernel
theorem dX3_has_0 : decode cX3_has 0 = .ok (.aload_n 0, 1) := by decide +kernel
theorem dX3_has_1 : decode cX3_has 1 = .ok (.getfield 19, 3) := by decide +kernel
theorem dX3_has_4 : decode cX3_has 4 = .ok (.aload_n 0, 1) := by decide +kernel
theorem dX3_has_5 : decode cX3_has 5 = .ok (.getfield 45, 3) := by decide +kernel
theorem dX3_has_8 : decode cX3_has 8 = .ok (.iaload, 1) := by decide +kernel
theorem dX3_has_9 : decode cX3_has 9 = .ok (.iload_n 1, 1) := by decide +kernel
theorem dX3_has_10 : decode cX3_has 10 = .ok (.iadd, 1) := by decide +kernel
theorem dX3_has_11 : decode cX3_has 11 = .ok (.iconst 1, 1) := by decide +kernel
theorem dX3_has_12 : decode cX3_has 12 = .ok (.iadd, 1) := by decide +kernel
theorem dX3_has_13 : decode cX3_has 13 = .ok (.aload_n 0, 1) := by decide +kernel
theorem dX3_has_14 : decode cX3_has 14 = .ok (.getfield 35, 3) := by decide +kernel
theorem dX3_has_17 : decode cX3_has 17 = .ok (.if_icmp .gt 7, 3) := by decide +kernel
theorem dX3_has_20 : decode cX3_has 20 = .ok (.iconst 1, 1) := by decide +kernel
theorem dX3_has_21 : decode cX3_has 21 = .ok (.goto 4, 3) := by decide +kernel
theorem dX3_has_24 : decode cX3_has 24 = .ok (.iconst 0, 1) := by decide +kernel
theorem dX3_has_25 : decode cX3_has 25 = .ok (.ireturn, 1) := by decide +kernel
set_option maxRecDepth 20000 in
theorem ggX3_pause_X3_begin : GoodIn wsX3_pause wsX3_begin := goodIn_r _ [6, 7, 8, 9, 10, 11, 12, 13, 14, 5, 15, 16, 61, 62, 63, 64, 65, 66, 67, 68, 69, 70, 71, 72, 73, 74, 75, 76, 77, 78, 79, 80, 81, 82] (by decide +kernel) (by decide +kernel)
set_option maxRecDepth 20000 in
theorem gX3_pause_X3_begin : GoodIn wsX3_pause (wsV RX3 106 RX3 yX3_begin wsX3_begin) := goodIn_app (goodIn_of _ (by decide +kernel)) ggX3_pause_X3_begin
set_option maxRecDepth 20000 in
theorem ggX3_pause_X3_work : GoodIn wsX3_pause wsX3_work := goodIn_r _ [20, 7, 21, 22, 23, 5, 24, 10, 9, 8, 11, 25, 26, 27, 28, 29, 30, 31, 32, 16, 33, 34, 35, 36, 37, 38, 12, 13, 14, 15, 39, 40, 41, 42, 43, 44, 45, 46, 47, 48, 49, 50, 51, 52, 53, 54, 55, 56, 57, 58, 59, 60, 61, 62, 63, 64, 65, 66, 67, 68, 69, 70, 71, 72, 73, 74, 75, 76, 77, 78, 79, 80, 81, 82] (by decide +kernel) (by decide +kernel)
set_option maxRecDepth 20000 in
theorem gX3_pause_X3_work : GoodIn wsX3_pause (wsV RX3 109 RX3 yX3_work wsX3_work) := goodIn_app (goodIn_of _ (by decide +kernel)) ggX3_pause_X3_work
theorem dX3_pause_0 : decode cX3_pause 0 = .ok (.aload_n 0, 1) := by decide +kernel
theorem dX3_pause_1 : decode cX3_pause 1 = .ok (.dup, 1) := by decide +kernel
theorem dX3_pause_2 : decode cX3_pause 2 = .ok (.getfield 103, 3) := by decide +kernel
theorem dX3_pause_5 : decode cX3_pause 5 = .ok (.iconst 1, 1) := by decide +kernel
theorem dX3_pause_6 : decode cX3_pause 6 = .ok (.iadd, 1) := by decide +kernel
theorem dX3_pause_7 : decode cX3_pause 7 = .ok (.putfield 103, 3) := by decide +kernel
theorem dX3_pause_10 : decode cX3_pause 10 = .ok (.aload_n 0, 1) := by decide +kernel
theorem dX3_pause_11 : decode cX3_pause 11 = .ok (.invokevirtual 106, 3) := by decide +kernel
theorem dX3_pause_14 : decode cX3_pause 14 = .ok (.aload_n 0, 1) := by decide +kernel
theorem dX3_pause_15 : decode cX3_pause 15 = .ok (.iconst (-1), 1) := by decide +kernel
theorem dX3_pause_16 : decode cX3_pause 16 = .ok (.invokevirtual 109, 3) := by decide +kernel
theorem dX3_pause_19 : decode cX3_pause 19 = .ok (.istore_n 1, 1) := by decide +kernel
theorem dX3_pause_20 : decode cX3_pause 20 = .ok (.return_, 1) := by decide +kernel
set_option maxRecDepth 20000 in
theorem ggX3_alloc_X3_isRoot : GoodIn wsX3_alloc wsX3_isRoot := goodIn_r _ [16] (by decide +kernel) (by decide +kernel)
set_option maxRecDepth 20000 in
theorem gX3_alloc_X3_isRoot : GoodIn wsX3_alloc (va_wsS RX3 112 yX3_isRoot wsX3_isRoot) := goodIn_app (goodIn_of _ (by decide +kernel)) ggX3_alloc_X3_isRoot
set_option maxRecDepth 20000 in
theorem ggX3_alloc_X3_open : GoodIn wsX3_alloc wsX3_open := goodIn_r _ [20, 21, 22, 86, 87, 88, 89, 90, 91, 92, 93, 94, 95, 96, 97, 98, 99, 100, 101, 102, 103, 104, 105, 106, 107] (by decide +kernel) (by decide +kernel)
set_option maxRecDepth 20000 in
theorem gX3_alloc_X3_open : GoodIn wsX3_alloc (wsV RX3 116 RX3 yX3_open wsX3_open) := goodIn_app (goodIn_of _ (by decide +kernel)) ggX3_alloc_X3_open
set_option maxRecDepth 20000 in
theorem ggX3_alloc_X3_has : GoodIn wsX3_alloc wsX3_has := goodIn_r _ [26, 3, 4, 12, 86, 87, 88, 89, 90, 91, 92, 93, 94, 95, 96, 97, 98, 99, 100, 101, 102, 103, 104, 105, 106, 107] (by decide +kernel) (by decide +kernel)
set_option maxRecDepth 20000 in
theorem gX3_alloc_X3_has : GoodIn wsX3_alloc (wsV RX3 119 RX3 yX3_has wsX3_has) := goodIn_app (goodIn_of _ (by decide +kernel)) ggX3_alloc_X3_has
set_option maxRecDepth 20000 in
theorem ggX3_alloc_X3_pause : GoodIn wsX3_alloc wsX3_pause := goodIn_r _ [30, 31, 32, 33, 34, 15, 35, 2, 36, 37, 38, 3, 39, 40, 41, 42, 4, 43, 44, 45, 46, 47, 48, 49, 50, 10, 21, 51, 52, 53, 54, 55, 56, 7, 5, 6, 57, 58, 59, 60, 61, 62, 63, 64, 65, 66, 67, 68, 69, 70, 71, 72, 73, 74, 75, 9, 76, 77, 78, 79, 80, 86, 87, 88, 89, 90, 91, 92, 93, 94, 95, 96, 97, 98, 99, 100, 101, 102, 103, 104, 105, 106, 107] (by decide +kernel) (by decide +kernel)
set_option maxRecDepth 20000 in
theorem gX3_alloc_X3_pause : GoodIn wsX3_alloc (wsV RX3 121 RX3 yX3_pause wsX3_pause) := goodIn_app (goodIn_of _ (by decide +kernel)) ggX3_alloc_X3_pause
set_option maxRecDepth 20000 in
theorem ggX3_alloc_X3_at : GoodIn wsX3_alloc wsX3_at := goodIn_r _ [59] (by decide +kernel) (by decide +kernel)
set_option maxRecDepth 20000 in
theorem gX3_alloc_X3_at : GoodIn wsX3_alloc (va_wsS RX3 48 yX3_at wsX3_at) := goodIn_app (goodIn_of _ (by decide +kernel)) ggX3_alloc_X3_at
set_option maxRecDepth 20000 in
theorem ggX3_alloc_X3_work : GoodIn wsX3_alloc wsX3_work := goodIn_r _ [46, 2, 47, 48, 49, 15, 50, 38, 37, 36, 3, 10, 21, 51, 52, 53, 54, 55, 56, 4, 7, 5, 6, 57, 58, 59, 39, 40, 41, 42, 60, 61, 62, 63, 64, 65, 66, 67, 68, 69, 70, 71, 72, 73, 74, 75, 9, 76, 77, 78, 79, 80, 86, 87, 88, 89, 90, 91, 92, 93, 94, 95, 96, 97, 98, 99, 100, 101, 102, 103, 104, 105, 106, 107] (by decide +kernel) (by decide +kernel)
set_option maxRecDepth 20000 in
theorem gX3_alloc_X3_work : GoodIn wsX3_alloc (wsV RX3 109 RX3 yX3_work wsX3_work) := goodIn_app (goodIn_of _ (by decide +kernel)) ggX3_alloc_X3_work
set_option maxRecDepth 20000 in
theorem ggX3_alloc_X3_begin : GoodIn wsX3_alloc wsX3_begin := goodIn_r _ [35, 2, 36, 37, 38, 3, 39, 40, 41, 15, 42, 4, 86, 87, 88, 89, 90, 91, 92, 93, 94, 95, 96, 97, 98, 99, 100, 101, 102, 103, 104, 105, 106, 107] (by decide +kernel) (by decide +kernel)
set_option maxRecDepth 20000 in
theorem gX3_alloc_X3_begin : GoodIn wsX3_alloc (wsV RX3 106 RX3 yX3_begin wsX3_begin) := goodIn_app (goodIn_of _ (by decide +kernel)) ggX3_alloc_X3_begin
set_option maxRecDepth 20000 in
theorem ggX3_alloc_X3_close : GoodIn wsX3_alloc wsX3_close := goodIn_r _ [84, 21, 22, 85, 86, 87, 88, 89, 90, 91, 92, 93, 94, 95, 96, 97, 98, 99, 100, 101, 102, 103, 104, 105, 106, 107] (by decide +kernel) (by decide +kernel)
set_option maxRecDepth 20000 in
theorem gX3_alloc_X3_close : GoodIn wsX3_alloc (wsV RX3 127 RX3 yX3_close wsX3_close) := goodIn_app (goodIn_of _ (by decide +kernel)) ggX3_alloc_X3_close
theorem dX3_alloc_0 : decode cX3_alloc 0 = .ok (.aload_n 0, 1) := by decide +kernel
theorem dX3_alloc_1 : decode cX3_alloc 1 = .ok (.iload_n 1, 1) := by decide +kernel
theorem dX3_alloc_2 : decode cX3_alloc 2 = .ok (.invokestatic 112, 3) := by decide +kernel
theorem dX3_alloc_5 : decode cX3_alloc 5 = .ok (.ifCond .eq 18, 3) := by decide +kernel
theorem dX3_alloc_8 : decode cX3_alloc 8 = .ok (.iload_n 2, 1) := by decide +kernel
theorem dX3_alloc_9 : decode cX3_alloc 9 = .ok (.iconst 1, 1) := by decide +kernel
theorem dX3_alloc_10 : decode cX3_alloc 10 = .ok (.if_icmp .lt 13, 3) := by decide +kernel
theorem dX3_alloc_13 : decode cX3_alloc 13 = .ok (.iload_n 2, 1) := by decide +kernel
theorem dX3_alloc_14 : decode cX3_alloc 14 = .ok (.bipush 8, 2) := by decide +kernel
theorem dX3_alloc_16 : decode cX3_alloc 16 = .ok (.if_icmp .gt 7, 3) := by decide +kernel
theorem dX3_alloc_19 : decode cX3_alloc 19 = .ok (.iconst 0, 1) := by decide +kernel
theorem dX3_alloc_20 : decode cX3_alloc 20 = .ok (.goto 4, 3) := by decide +kernel
theorem dX3_alloc_23 : decode cX3_alloc 23 = .ok (.iconst 1, 1) := by decide +kernel
theorem dX3_alloc_24 : decode cX3_alloc 24 = .ok (.putfield 42, 3) := by decide +kernel
theorem dX3_alloc_27 : decode cX3_alloc 27 = .ok (.aload_n 0, 1) := by decide +kernel
theorem dX3_alloc_28 : decode cX3_alloc 28 = .ok (.getfield 42, 3) := by decide +kernel
theorem dX3_alloc_31 : decode cX3_alloc 31 = .ok (.ifCond .le 5, 3) := by decide +kernel
theorem dX3_alloc_34 : decode cX3_alloc 34 = .ok (.iconst 0, 1) := by decide +kernel
theorem dX3_alloc_35 : decode cX3_alloc 35 = .ok (.ireturn, 1) := by decide +kernel
theorem dX3_alloc_36 : decode cX3_alloc 36 = .ok (.aload_n 0, 1) := by decide +kernel
theorem dX3_alloc_37 : decode cX3_alloc 37 = .ok (.invokevirtual 116, 3) := by decide +kernel
theorem dX3_alloc_40 : decode cX3_alloc 40 = .ok (.aload_n 0, 1) := by decide +kernel
theorem dX3_alloc_41 : decode cX3_alloc 41 = .ok (.iload_n 2, 1) := by decide +kernel
theorem dX3_alloc_42 : decode cX3_alloc 42 = .ok (.invokevirtual 119, 3) := by decide +kernel
theorem dX3_alloc_45 : decode cX3_alloc 45 = .ok (.ifCond .ne 14, 3) := by decide +kernel
theorem dX3_alloc_48 : decode cX3_alloc 48 = .ok (.aload_n 0, 1) := by decide +kernel
theorem dX3_alloc_49 : decode cX3_alloc 49 = .ok (.getfield 69, 3) := by decide +kernel
theorem dX3_alloc_52 : decode cX3_alloc 52 = .ok (.ifCond .eq 7, 3) := by decide +kernel
theorem dX3_alloc_55 : decode cX3_alloc 55 = .ok (.aload_n 0, 1) := by decide +kernel
theorem dX3_alloc_56 : decode cX3_alloc 56 = .ok (.invokevirtual 121, 3) := by decide +kernel
theorem dX3_alloc_59 : decode cX3_alloc 59 = .ok (.aload_n 0, 1) := by decide +kernel
theorem dX3_alloc_60 : decode cX3_alloc 60 = .ok (.iload_n 2, 1) := by decide +kernel
theorem dX3_alloc_61 : decode cX3_alloc 61 = .ok (.invokevirtual 119, 3) := by decide +kernel
theorem dX3_alloc_64 : decode cX3_alloc 64 = .ok (.ifCond .ne 7, 3) := by decide +kernel
theorem dX3_alloc_67 : decode cX3_alloc 67 = .ok (.aload_n 0, 1) := by decide +kernel
theorem dX3_alloc_68 : decode cX3_alloc 68 = .ok (.invokevirtual 121, 3) := by decide +kernel
theorem dX3_alloc_71 : decode cX3_alloc 71 = .ok (.aload_n 0, 1) := by decide +kernel
theorem dX3_alloc_72 : decode cX3_alloc 72 = .ok (.iload_n 2, 1) := by decide +kernel
theorem dX3_alloc_73 : decode cX3_alloc 73 = .ok (.invokevirtual 119, 3) := by decide +kernel
theorem dX3_alloc_76 : decode cX3_alloc 76 = .ok (.istore_n 3, 1) := by decide +kernel
theorem dX3_alloc_77 : decode cX3_alloc 77 = .ok (.iload_n 3, 1) := by decide +kernel
theorem dX3_alloc_78 : decode cX3_alloc 78 = .ok (.ifCond .eq 184, 3) := by decide +kernel
theorem dX3_alloc_81 : decode cX3_alloc 81 = .ok (.aload_n 0, 1) := by decide +kernel
theorem dX3_alloc_82 : decode cX3_alloc 82 = .ok (.getfield 19, 3) := by decide +kernel
theorem dX3_alloc_85 : decode cX3_alloc 85 = .ok (.aload_n 0, 1) := by decide +kernel
theorem dX3_alloc_86 : decode cX3_alloc 86 = .ok (.getfield 45, 3) := by decide +kernel
theorem dX3_alloc_89 : decode cX3_alloc 89 = .ok (.iaload, 1) := by decide +kernel
theorem dX3_alloc_90 : decode cX3_alloc 90 = .ok (.istore 4, 2) := by decide +kernel
theorem dX3_alloc_92 : decode cX3_alloc 92 = .ok (.iconst 0, 1) := by decide +kernel
theorem dX3_alloc_93 : decode cX3_alloc 93 = .ok (.istore 5, 2) := by decide +kernel
theorem dX3_alloc_95 : decode cX3_alloc 95 = .ok (.iload 5, 2) := by decide +kernel
theorem dX3_alloc_97 : decode cX3_alloc 97 = .ok (.iload_n 2, 1) := by decide +kernel
theorem dX3_alloc_98 : decode cX3_alloc 98 = .ok (.if_icmp .gt 63, 3) := by decide +kernel
theorem dX3_alloc_101 : decode cX3_alloc 101 = .ok (.aload_n 0, 1) := by decide +kernel
theorem dX3_alloc_102 : decode cX3_alloc 102 = .ok (.getfield 7, 3) := by decide +kernel
theorem dX3_alloc_105 : decode cX3_alloc 105 = .ok (.aload_n 0, 1) := by decide +kernel
theorem dX3_alloc_106 : decode cX3_alloc 106 = .ok (.getfield 45, 3) := by decide +kernel
theorem dX3_alloc_109 : decode cX3_alloc 109 = .ok (.iload 4, 2) := by decide +kernel
theorem dX3_alloc_111 : decode cX3_alloc 111 = .ok (.invokestatic 48, 3) := by decide +kernel
theorem dX3_alloc_114 : decode cX3_alloc 114 = .ok (.iload 5, 2) := by decide +kernel
theorem dX3_alloc_116 : decode cX3_alloc 116 = .ok (.iadd, 1) := by decide +kernel
theorem dX3_alloc_117 : decode cX3_alloc 117 = .ok (.iload 5, 2) := by decide +kernel
theorem dX3_alloc_119 : decode cX3_alloc 119 = .ok (.ifCond .ne 7, 3) := by decide +kernel
theorem dX3_alloc_122 : decode cX3_alloc 122 = .ok (.iconst 3, 1) := by decide +kernel
theorem dX3_alloc_123 : decode cX3_alloc 123 = .ok (.goto 4, 3) := by decide +kernel
theorem dX3_alloc_126 : decode cX3_alloc 126 = .ok (.iconst 0, 1) := by decide +kernel
theorem dX3_alloc_127 : decode cX3_alloc 127 = .ok (.iastore, 1) := by decide +kernel
theorem dX3_alloc_128 : decode cX3_alloc 128 = .ok (.aload_n 0, 1) := by decide +kernel
theorem dX3_alloc_129 : decode cX3_alloc 129 = .ok (.getfield 13, 3) := by decide +kernel
theorem dX3_alloc_132 : decode cX3_alloc 132 = .ok (.aload_n 0, 1) := by decide +kernel
theorem dX3_alloc_133 : decode cX3_alloc 133 = .ok (.getfield 45, 3) := by decide +kernel
theorem dX3_alloc_136 : decode cX3_alloc 136 = .ok (.iload 4, 2) := by decide +kernel
theorem dX3_alloc_138 : decode cX3_alloc 138 = .ok (.invokestatic 48, 3) := by decide +kernel
theorem dX3_alloc_141 : decode cX3_alloc 141 = .ok (.iload 5, 2) := by decide +kernel
theorem dX3_alloc_143 : decode cX3_alloc 143 = .ok (.iadd, 1) := by decide +kernel
theorem dX3_alloc_144 : decode cX3_alloc 144 = .ok (.iload 5, 2) := by decide +kernel
theorem dX3_alloc_146 : decode cX3_alloc 146 = .ok (.ifCond .ne 7, 3) := by decide +kernel
theorem dX3_alloc_149 : decode cX3_alloc 149 = .ok (.iload_n 2, 1) := by decide +kernel
theorem dX3_alloc_150 : decode cX3_alloc 150 = .ok (.goto 4, 3) := by decide +kernel
theorem dX3_alloc_153 : decode cX3_alloc 153 = .ok (.iconst 0, 1) := by decide +kernel
theorem dX3_alloc_154 : decode cX3_alloc 154 = .ok (.iastore, 1) := by decide +kernel
theorem dX3_alloc_155 : decode cX3_alloc 155 = .ok (.iinc 5 1, 3) := by decide +kernel
theorem dX3_alloc_158 : decode cX3_alloc 158 = .ok (.goto (-63), 3) := by decide +kernel
theorem dX3_alloc_161 : decode cX3_alloc 161 = .ok (.aload_n 0, 1) := by decide +kernel
theorem dX3_alloc_162 : decode cX3_alloc 162 = .ok (.getfield 16, 3) := by decide +kernel
theorem dX3_alloc_165 : decode cX3_alloc 165 = .ok (.aload_n 0, 1) := by decide +kernel
theorem dX3_alloc_166 : decode cX3_alloc 166 = .ok (.getfield 45, 3) := by decide +kernel
theorem dX3_alloc_169 : decode cX3_alloc 169 = .ok (.iload 4, 2) := by decide +kernel
theorem dX3_alloc_171 : decode cX3_alloc 171 = .ok (.invokestatic 48, 3) := by decide +kernel
theorem dX3_alloc_174 : decode cX3_alloc 174 = .ok (.iconst (-1), 1) := by decide +kernel
theorem dX3_alloc_175 : decode cX3_alloc 175 = .ok (.iastore, 1) := by decide +kernel
theorem dX3_alloc_176 : decode cX3_alloc 176 = .ok (.aload_n 0, 1) := by decide +kernel
theorem dX3_alloc_177 : decode cX3_alloc 177 = .ok (.getfield 19, 3) := by decide +kernel
theorem dX3_alloc_180 : decode cX3_alloc 180 = .ok (.aload_n 0, 1) := by decide +kernel
theorem dX3_alloc_181 : decode cX3_alloc 181 = .ok (.getfield 45, 3) := by decide +kernel
theorem dX3_alloc_184 : decode cX3_alloc 184 = .ok (.dup2, 1) := by decide +kernel
theorem dX3_alloc_185 : decode cX3_alloc 185 = .ok (.iaload, 1) := by decide +kernel
theorem dX3_alloc_186 : decode cX3_alloc 186 = .ok (.iload_n 2, 1) := by decide +kernel
theorem dX3_alloc_187 : decode cX3_alloc 187 = .ok (.iconst 1, 1) := by decide +kernel
theorem dX3_alloc_188 : decode cX3_alloc 188 = .ok (.iadd, 1) := by decide +kernel
theorem dX3_alloc_189 : decode cX3_alloc 189 = .ok (.iadd, 1) := by decide +kernel
theorem dX3_alloc_190 : decode cX3_alloc 190 = .ok (.iastore, 1) := by decide +kernel
theorem dX3_alloc_191 : decode cX3_alloc 191 = .ok (.aload_n 0, 1) := by decide +kernel
theorem dX3_alloc_192 : decode cX3_alloc 192 = .ok (.dup, 1) := by decide +kernel
theorem dX3_alloc_193 : decode cX3_alloc 193 = .ok (.getfield 124, 3) := by decide +kernel
theorem dX3_alloc_196 : decode cX3_alloc 196 = .ok (.iconst 1, 1) := by decide +kernel
theorem dX3_alloc_197 : decode cX3_alloc 197 = .ok (.iadd, 1) := by decide +kernel
theorem dX3_alloc_198 : decode cX3_alloc 198 = .ok (.putfield 124, 3) := by decide +kernel
theorem dX3_alloc_201 : decode cX3_alloc 201 = .ok (.aload_n 0, 1) := by decide +kernel
theorem dX3_alloc_202 : decode cX3_alloc 202 = .ok (.getfield 22, 3) := by decide +kernel
theorem dX3_alloc_205 : decode cX3_alloc 205 = .ok (.iload_n 1, 1) := by decide +kernel
theorem dX3_alloc_206 : decode cX3_alloc 206 = .ok (.iconst 1, 1) := by decide +kernel
theorem dX3_alloc_207 : decode cX3_alloc 207 = .ok (.bastore, 1) := by decide +kernel
theorem dX3_alloc_208 : decode cX3_alloc 208 = .ok (.aload_n 0, 1) := by decide +kernel
theorem dX3_alloc_209 : decode cX3_alloc 209 = .ok (.getfield 26, 3) := by decide +kernel
theorem dX3_alloc_212 : decode cX3_alloc 212 = .ok (.iload_n 1, 1) := by decide +kernel
theorem dX3_alloc_213 : decode cX3_alloc 213 = .ok (.iload 4, 2) := by decide +kernel
theorem dX3_alloc_215 : decode cX3_alloc 215 = .ok (.iastore, 1) := by decide +kernel
theorem dX3_alloc_216 : decode cX3_alloc 216 = .ok (.aload_n 0, 1) := by decide +kernel
theorem dX3_alloc_217 : decode cX3_alloc 217 = .ok (.getfield 69, 3) := by decide +kernel
theorem dX3_alloc_220 : decode cX3_alloc 220 = .ok (.ifCond .eq 20, 3) := by decide +kernel
theorem dX3_alloc_223 : decode cX3_alloc 223 = .ok (.aload_n 0, 1) := by decide +kernel
theorem dX3_alloc_224 : decode cX3_alloc 224 = .ok (.aload_n 0, 1) := by decide +kernel
theorem dX3_alloc_225 : decode cX3_alloc 225 = .ok (.getfield 39, 3) := by decide +kernel
theorem dX3_alloc_228 : decode cX3_alloc 228 = .ok (.iload_n 2, 1) := by decide +kernel
theorem dX3_alloc_229 : decode cX3_alloc 229 = .ok (.iconst 1, 1) := by decide +kernel
theorem dX3_alloc_230 : decode cX3_alloc 230 = .ok (.iadd, 1) := by decide +kernel
theorem dX3_alloc_231 : decode cX3_alloc 231 = .ok (.imul, 1) := by decide +kernel
theorem dX3_alloc_232 : decode cX3_alloc 232 = .ok (.invokevirtual 109, 3) := by decide +kernel
theorem dX3_alloc_235 : decode cX3_alloc 235 = .ok (.istore 5, 2) := by decide +kernel
theorem dX3_alloc_237 : decode cX3_alloc 237 = .ok (.goto 25, 3) := by decide +kernel
theorem dX3_alloc_240 : decode cX3_alloc 240 = .ok (.iconst 2, 1) := by decide +kernel
theorem dX3_alloc_241 : decode cX3_alloc 241 = .ok (.aload_n 0, 1) := by decide +kernel
theorem dX3_alloc_242 : decode cX3_alloc 242 = .ok (.getfield 19, 3) := by decide +kernel
theorem dX3_alloc_245 : decode cX3_alloc 245 = .ok (.aload_n 0, 1) := by decide +kernel
theorem dX3_alloc_246 : decode cX3_alloc 246 = .ok (.getfield 45, 3) := by decide +kernel
theorem dX3_alloc_249 : decode cX3_alloc 249 = .ok (.iaload, 1) := by decide +kernel
theorem dX3_alloc_250 : decode cX3_alloc 250 = .ok (.imul, 1) := by decide +kernel
theorem dX3_alloc_251 : decode cX3_alloc 251 = .ok (.aload_n 0, 1) := by decide +kernel
theorem dX3_alloc_252 : decode cX3_alloc 252 = .ok (.getfield 35, 3) := by decide +kernel
theorem dX3_alloc_255 : decode cX3_alloc 255 = .ok (.if_icmp .le 7, 3) := by decide +kernel
theorem dX3_alloc_258 : decode cX3_alloc 258 = .ok (.aload_n 0, 1) := by decide +kernel
theorem dX3_alloc_259 : decode cX3_alloc 259 = .ok (.invokevirtual 106, 3) := by decide +kernel
theorem dX3_alloc_262 : decode cX3_alloc 262 = .ok (.aload_n 0, 1) := by decide +kernel
theorem dX3_alloc_263 : decode cX3_alloc 263 = .ok (.invokevirtual 127, 3) := by decide +kernel
theorem dX3_alloc_266 : decode cX3_alloc 266 = .ok (.iload_n 3, 1) := by decide +kernel
theorem dX3_alloc_267 : decode cX3_alloc 267 = .ok (.ireturn, 1) := by decide +kernel
set_option maxRecDepth 20000 in
theorem ggX3_hasField_X3_at : GoodIn wsX3_hasField wsX3_at := goodIn_r _ [8] (by decide +kernel) (by decide +kernel)
set_option maxRecDepth 20000 in
theorem gX3_hasField_X3_at : GoodIn wsX3_hasField (va_wsS RX3 48 yX3_at wsX3_at) := goodIn_app (goodIn_of _ (by decide +kernel)) ggX3_hasField_X3_at
theorem dX3_hasField_0 : decode cX3_hasField 0 = .ok (.aload_n 0, 1) := by decide +kernel
theorem dX3_hasField_1 : decode cX3_hasField 1 = .ok (.getfield 22, 3) := by decide +kernel
theorem dX3_hasField_4 : decode cX3_hasField 4 = .ok (.iload_n 1, 1) := by decide +kernel
theorem dX3_hasField_5 : decode cX3_hasField 5 = .ok (.baload, 1) := by decide +kernel
theorem dX3_hasField_6 : decode cX3_hasField 6 = .ok (.ifCond .eq 46, 3) := by decide +kernel
theorem dX3_hasField_9 : decode cX3_hasField 9 = .ok (.iload_n 2, 1) := by decide +kernel
theorem dX3_hasField_10 : decode cX3_hasField 10 = .ok (.ifCond .lt 42, 3) := by decide +kernel
theorem dX3_hasField_13 : decode cX3_hasField 13 = .ok (.iload_n 2, 1) := by decide +kernel
theorem dX3_hasField_14 : decode cX3_hasField 14 = .ok (.aload_n 0, 1) := by decide +kernel
theorem dX3_hasField_15 : decode cX3_hasField 15 = .ok (.getfield 13, 3) := by decide +kernel
theorem dX3_hasField_18 : decode cX3_hasField 18 = .ok (.aload_n 0, 1) := by decide +kernel
theorem dX3_hasField_19 : decode cX3_hasField 19 = .ok (.getfield 45, 3) := by decide +kernel
theorem dX3_hasField_22 : decode cX3_hasField 22 = .ok (.aload_n 0, 1) := by decide +kernel
theorem dX3_hasField_23 : decode cX3_hasField 23 = .ok (.getfield 22, 3) := by decide +kernel
theorem dX3_hasField_26 : decode cX3_hasField 26 = .ok (.iload_n 1, 1) := by decide +kernel
theorem dX3_hasField_27 : decode cX3_hasField 27 = .ok (.baload, 1) := by decide +kernel
theorem dX3_hasField_28 : decode cX3_hasField 28 = .ok (.ifCond .eq 12, 3) := by decide +kernel
theorem dX3_hasField_31 : decode cX3_hasField 31 = .ok (.aload_n 0, 1) := by decide +kernel
theorem dX3_hasField_32 : decode cX3_hasField 32 = .ok (.getfield 26, 3) := by decide +kernel
theorem dX3_hasField_35 : decode cX3_hasField 35 = .ok (.iload_n 1, 1) := by decide +kernel
theorem dX3_hasField_36 : decode cX3_hasField 36 = .ok (.iaload, 1) := by decide +kernel
theorem dX3_hasField_37 : decode cX3_hasField 37 = .ok (.goto 4, 3) := by decide +kernel
theorem dX3_hasField_40 : decode cX3_hasField 40 = .ok (.iconst 0, 1) := by decide +kernel
theorem dX3_hasField_41 : decode cX3_hasField 41 = .ok (.invokestatic 48, 3) := by decide +kernel
theorem dX3_hasField_44 : decode cX3_hasField 44 = .ok (.iaload, 1) := by decide +kernel
theorem dX3_hasField_45 : decode cX3_hasField 45 = .ok (.if_icmp .ge 7, 3) := by decide +kernel
theorem dX3_hasField_48 : decode cX3_hasField 48 = .ok (.iconst 1, 1) := by decide +kernel
theorem dX3_hasField_49 : decode cX3_hasField 49 = .ok (.goto 4, 3) := by decide +kernel
theorem dX3_hasField_52 : decode cX3_hasField 52 = .ok (.iconst 0, 1) := by decide +kernel
theorem dX3_hasField_53 : decode cX3_hasField 53 = .ok (.ireturn, 1) := by decide +kernel
set_option maxRecDepth 20000 in
theorem ggX3_change_X3_at : GoodIn wsX3_change wsX3_at := goodIn_r _ [13] (by decide +kernel) (by decide +kernel)
set_option maxRecDepth 20000 in
theorem gX3_change_X3_at : GoodIn wsX3_change (va_wsS RX3 48 yX3_at wsX3_at) := goodIn_app (goodIn_of _ (by decide +kernel)) ggX3_change_X3_at
set_option maxRecDepth 20000 in
theorem ggX3_change_X3_open : GoodIn wsX3_change wsX3_open := goodIn_r _ [17, 18, 19, 67, 68, 69, 70, 71, 72, 73, 74, 75, 76, 77, 78, 79, 80, 81, 82, 83, 84, 85, 86, 87, 88] (by decide +kernel) (by decide +kernel)
set_option maxRecDepth 20000 in
theorem gX3_change_X3_open : GoodIn wsX3_change (wsV RX3 116 RX3 yX3_open wsX3_open) := goodIn_app (goodIn_of _ (by decide +kernel)) ggX3_change_X3_open
set_option maxRecDepth 20000 in
theorem ggX3_change_X3_work : GoodIn wsX3_change wsX3_work := goodIn_r _ [23, 5, 24, 25, 26, 12, 27, 28, 7, 29, 30, 2, 18, 31, 32, 33, 34, 6, 8, 1, 35, 3, 4, 10, 11, 13, 36, 37, 38, 39, 40, 41, 42, 43, 44, 45, 46, 47, 48, 49, 50, 51, 52, 53, 54, 55, 56, 57, 58, 59, 60, 61, 67, 68, 69, 70, 71, 72, 73, 74, 75, 76, 77, 78, 79, 80, 81, 82, 83, 84, 85, 86, 87, 88] (by decide +kernel) (by decide +kernel)
set_option maxRecDepth 20000 in
theorem gX3_change_X3_work : GoodIn wsX3_change (wsV RX3 109 RX3 yX3_work wsX3_work) := goodIn_app (goodIn_of _ (by decide +kernel)) ggX3_change_X3_work
set_option maxRecDepth 20000 in
theorem ggX3_change_X3_close : GoodIn wsX3_change wsX3_close := goodIn_r _ [65, 18, 19, 66, 67, 68, 69, 70, 71, 72, 73, 74, 75, 76, 77, 78, 79, 80, 81, 82, 83, 84, 85, 86, 87, 88] (by decide +kernel) (by decide +kernel)
set_option maxRecDepth 20000 in
theorem gX3_change_X3_close : GoodIn wsX3_change (wsV RX3 127 RX3 yX3_close wsX3_close) := goodIn_app (goodIn_of _ (by decide +kernel)) ggX3_change_X3_close
theorem dX3_change_0 : decode cX3_change 0 = .ok (.aload_n 0, 1) := by decide +kernel
theorem dX3_change_1 : decode cX3_change 1 = .ok (.getfield 45, 3) := by decide +kernel
theorem dX3_change_4 : decode cX3_change 4 = .ok (.aload_n 0, 1) := by decide +kernel
theorem dX3_change_5 : decode cX3_change 5 = .ok (.getfield 26, 3) := by decide +kernel
theorem dX3_change_8 : decode cX3_change 8 = .ok (.iload_n 1, 1) := by decide +kernel
theorem dX3_change_9 : decode cX3_change 9 = .ok (.iaload, 1) := by decide +kernel
theorem dX3_change_10 : decode cX3_change 10 = .ok (.invokestatic 48, 3) := by decide +kernel
theorem dX3_change_13 : decode cX3_change 13 = .ok (.iconst 1, 1) := by decide +kernel
theorem dX3_change_14 : decode cX3_change 14 = .ok (.iadd, 1) := by decide +kernel
theorem dX3_change_15 : decode cX3_change 15 = .ok (.iload_n 2, 1) := by decide +kernel
theorem dX3_change_16 : decode cX3_change 16 = .ok (.iadd, 1) := by decide +kernel
theorem dX3_change_17 : decode cX3_change 17 = .ok (.istore 5, 2) := by decide +kernel
theorem dX3_change_19 : decode cX3_change 19 = .ok (.aload_n 0, 1) := by decide +kernel
theorem dX3_change_20 : decode cX3_change 20 = .ok (.getfield 7, 3) := by decide +kernel
theorem dX3_change_23 : decode cX3_change 23 = .ok (.iload 5, 2) := by decide +kernel
theorem dX3_change_25 : decode cX3_change 25 = .ok (.iload_n 3, 1) := by decide +kernel
theorem dX3_change_26 : decode cX3_change 26 = .ok (.iastore, 1) := by decide +kernel
theorem dX3_change_27 : decode cX3_change 27 = .ok (.aload_n 0, 1) := by decide +kernel
theorem dX3_change_28 : decode cX3_change 28 = .ok (.getfield 13, 3) := by decide +kernel
theorem dX3_change_31 : decode cX3_change 31 = .ok (.iload 5, 2) := by decide +kernel
theorem dX3_change_33 : decode cX3_change 33 = .ok (.iload 4, 2) := by decide +kernel
theorem dX3_change_35 : decode cX3_change 35 = .ok (.iastore, 1) := by decide +kernel
theorem dX3_change_36 : decode cX3_change 36 = .ok (.aload_n 0, 1) := by decide +kernel
theorem dX3_change_37 : decode cX3_change 37 = .ok (.getfield 69, 3) := by decide +kernel
theorem dX3_change_40 : decode cX3_change 40 = .ok (.ifCond .ne 4, 3) := by decide +kernel
theorem dX3_change_43 : decode cX3_change 43 = .ok (.return_, 1) := by decide +kernel
theorem dX3_change_44 : decode cX3_change 44 = .ok (.aload_n 0, 1) := by decide +kernel
theorem dX3_change_45 : decode cX3_change 45 = .ok (.invokevirtual 116, 3) := by decide +kernel
theorem dX3_change_48 : decode cX3_change 48 = .ok (.aload_n 0, 1) := by decide +kernel
theorem dX3_change_49 : decode cX3_change 49 = .ok (.getfield 29, 3) := by decide +kernel
theorem dX3_change_52 : decode cX3_change 52 = .ok (.aload_n 0, 1) := by decide +kernel
theorem dX3_change_53 : decode cX3_change 53 = .ok (.getfield 73, 3) := by decide +kernel
theorem dX3_change_56 : decode cX3_change 56 = .ok (.aload_n 0, 1) := by decide +kernel
theorem dX3_change_57 : decode cX3_change 57 = .ok (.getfield 26, 3) := by decide +kernel
theorem dX3_change_60 : decode cX3_change 60 = .ok (.iload_n 1, 1) := by decide +kernel
theorem dX3_change_61 : decode cX3_change 61 = .ok (.iaload, 1) := by decide +kernel
theorem dX3_change_62 : decode cX3_change 62 = .ok (.iastore, 1) := by decide +kernel
theorem dX3_change_63 : decode cX3_change 63 = .ok (.aload_n 0, 1) := by decide +kernel
theorem dX3_change_64 : decode cX3_change 64 = .ok (.getfield 32, 3) := by decide +kernel
theorem dX3_change_67 : decode cX3_change 67 = .ok (.aload_n 0, 1) := by decide +kernel
theorem dX3_change_68 : decode cX3_change 68 = .ok (.getfield 73, 3) := by decide +kernel
theorem dX3_change_71 : decode cX3_change 71 = .ok (.iload_n 2, 1) := by decide +kernel
theorem dX3_change_72 : decode cX3_change 72 = .ok (.iastore, 1) := by decide +kernel
theorem dX3_change_73 : decode cX3_change 73 = .ok (.aload_n 0, 1) := by decide +kernel
theorem dX3_change_74 : decode cX3_change 74 = .ok (.dup, 1) := by decide +kernel
theorem dX3_change_75 : decode cX3_change 75 = .ok (.getfield 73, 3) := by decide +kernel
theorem dX3_change_78 : decode cX3_change 78 = .ok (.iconst 1, 1) := by decide +kernel
theorem dX3_change_79 : decode cX3_change 79 = .ok (.iadd, 1) := by decide +kernel
theorem dX3_change_80 : decode cX3_change 80 = .ok (.putfield 73, 3) := by decide +kernel
theorem dX3_change_83 : decode cX3_change 83 = .ok (.aload_n 0, 1) := by decide +kernel
theorem dX3_change_84 : decode cX3_change 84 = .ok (.aload_n 0, 1) := by decide +kernel
theorem dX3_change_85 : decode cX3_change 85 = .ok (.getfield 39, 3) := by decide +kernel
theorem dX3_change_88 : decode cX3_change 88 = .ok (.invokevirtual 109, 3) := by decide +kernel
theorem dX3_change_91 : decode cX3_change 91 = .ok (.istore 6, 2) := by decide +kernel
theorem dX3_change_93 : decode cX3_change 93 = .ok (.aload_n 0, 1) := by decide +kernel
theorem dX3_change_94 : decode cX3_change 94 = .ok (.invokevirtual 127, 3) := by decide +kernel
theorem dX3_change_97 : decode cX3_change 97 = .ok (.return_, 1) := by decide +kernel
set_option maxRecDepth 20000 in
theorem ggX3_put_X3_isRoot : GoodIn wsX3_put wsX3_isRoot := goodIn_r _ [8] (by decide +kernel) (by decide +kernel)
set_option maxRecDepth 20000 in
theorem gX3_put_X3_isRoot : GoodIn wsX3_put (va_wsS RX3 112 yX3_isRoot wsX3_isRoot) := goodIn_app (goodIn_of _ (by decide +kernel)) ggX3_put_X3_isRoot
set_option maxRecDepth 20000 in
theorem ggX3_put_X3_hasField : GoodIn wsX3_put wsX3_hasField := goodIn_r _ [12, 2, 13, 3, 4, 14, 15, 7, 16, 79, 80, 81, 82, 83, 84, 85, 86, 87, 88, 89, 90, 91, 92, 93, 94, 95, 96, 97, 98, 99, 100] (by decide +kernel) (by decide +kernel)
set_option maxRecDepth 20000 in
theorem gX3_put_X3_hasField : GoodIn wsX3_put (wsV RX3 130 RX3 yX3_hasField wsX3_hasField) := goodIn_app (goodIn_of _ (by decide +kernel)) ggX3_put_X3_hasField
set_option maxRecDepth 20000 in
theorem ggX3_put_X3_change : GoodIn wsX3_put wsX3_change := goodIn_r _ [20, 3, 4, 21, 13, 22, 23, 24, 25, 26, 14, 15, 7, 16, 27, 28, 29, 30, 31, 32, 33, 34, 35, 36, 37, 38, 39, 40, 41, 42, 43, 44, 45, 46, 47, 48, 49, 50, 51, 52, 53, 54, 55, 56, 57, 58, 59, 60, 61, 62, 63, 64, 65, 66, 67, 68, 2, 69, 70, 71, 72, 73, 74, 75, 76, 77, 78, 79, 80, 81, 82, 83, 84, 85, 86, 87, 88, 89, 90, 91, 92, 93, 94, 95, 96, 97, 98, 99, 100] (by decide +kernel) (by decide +kernel)
set_option maxRecDepth 20000 in
theorem gX3_put_X3_change : GoodIn wsX3_put (wsV RX3 134 RX3 yX3_change wsX3_change) := goodIn_app (goodIn_of _ (by decide +kernel)) ggX3_put_X3_change
theorem dX3_put_0 : decode cX3_put 0 = .ok (.aload_n 0, 1) := by decide +kernel
theorem dX3_put_1 : decode cX3_put 1 = .ok (.iload_n 1, 1) := by decide +kernel
theorem dX3_put_2 : decode cX3_put 2 = .ok (.invokestatic 112, 3) := by decide +kernel
theorem dX3_put_5 : decode cX3_put 5 = .ok (.ifCond .eq 10, 3) := by decide +kernel
theorem dX3_put_8 : decode cX3_put 8 = .ok (.iload_n 3, 1) := by decide +kernel
theorem dX3_put_9 : decode cX3_put 9 = .ok (.invokestatic 112, 3) := by decide +kernel
theorem dX3_put_12 : decode cX3_put 12 = .ok (.ifCond .ne 7, 3) := by decide +kernel
theorem dX3_put_15 : decode cX3_put 15 = .ok (.iconst 1, 1) := by decide +kernel
theorem dX3_put_16 : decode cX3_put 16 = .ok (.goto 17, 3) := by decide +kernel
theorem dX3_put_19 : decode cX3_put 19 = .ok (.aload_n 0, 1) := by decide +kernel
theorem dX3_put_20 : decode cX3_put 20 = .ok (.iload_n 1, 1) := by decide +kernel
theorem dX3_put_21 : decode cX3_put 21 = .ok (.iload_n 2, 1) := by decide +kernel
theorem dX3_put_22 : decode cX3_put 22 = .ok (.invokevirtual 130, 3) := by decide +kernel
theorem dX3_put_25 : decode cX3_put 25 = .ok (.ifCond .ne 7, 3) := by decide +kernel
theorem dX3_put_28 : decode cX3_put 28 = .ok (.iconst 2, 1) := by decide +kernel
theorem dX3_put_29 : decode cX3_put 29 = .ok (.goto 4, 3) := by decide +kernel
theorem dX3_put_32 : decode cX3_put 32 = .ok (.iconst 0, 1) := by decide +kernel
theorem dX3_put_33 : decode cX3_put 33 = .ok (.putfield 42, 3) := by decide +kernel
theorem dX3_put_36 : decode cX3_put 36 = .ok (.aload_n 0, 1) := by decide +kernel
theorem dX3_put_37 : decode cX3_put 37 = .ok (.getfield 42, 3) := by decide +kernel
theorem dX3_put_40 : decode cX3_put 40 = .ok (.ifCond .ne 34, 3) := by decide +kernel
theorem dX3_put_43 : decode cX3_put 43 = .ok (.aload_n 0, 1) := by decide +kernel
theorem dX3_put_44 : decode cX3_put 44 = .ok (.iload_n 1, 1) := by decide +kernel
theorem dX3_put_45 : decode cX3_put 45 = .ok (.iload_n 2, 1) := by decide +kernel
theorem dX3_put_46 : decode cX3_put 46 = .ok (.aload_n 0, 1) := by decide +kernel
theorem dX3_put_47 : decode cX3_put 47 = .ok (.getfield 22, 3) := by decide +kernel
theorem dX3_put_50 : decode cX3_put 50 = .ok (.iload_n 3, 1) := by decide +kernel
theorem dX3_put_51 : decode cX3_put 51 = .ok (.baload, 1) := by decide +kernel
theorem dX3_put_52 : decode cX3_put 52 = .ok (.ifCond .eq 12, 3) := by decide +kernel
theorem dX3_put_55 : decode cX3_put 55 = .ok (.iconst 1, 1) := by decide +kernel
theorem dX3_put_56 : decode cX3_put 56 = .ok (.aload_n 0, 1) := by decide +kernel
theorem dX3_put_57 : decode cX3_put 57 = .ok (.getfield 45, 3) := by decide +kernel
theorem dX3_put_60 : decode cX3_put 60 = .ok (.iadd, 1) := by decide +kernel
theorem dX3_put_61 : decode cX3_put 61 = .ok (.goto 4, 3) := by decide +kernel
theorem dX3_put_64 : decode cX3_put 64 = .ok (.iconst 0, 1) := by decide +kernel
theorem dX3_put_65 : decode cX3_put 65 = .ok (.aload_n 0, 1) := by decide +kernel
theorem dX3_put_66 : decode cX3_put 66 = .ok (.getfield 26, 3) := by decide +kernel
theorem dX3_put_69 : decode cX3_put 69 = .ok (.iload_n 3, 1) := by decide +kernel
theorem dX3_put_70 : decode cX3_put 70 = .ok (.iaload, 1) := by decide +kernel
theorem dX3_put_71 : decode cX3_put 71 = .ok (.invokevirtual 134, 3) := by decide +kernel
theorem dX3_put_74 : decode cX3_put 74 = .ok (.return_, 1) := by decide +kernel
set_option maxRecDepth 20000 in
theorem ggX3_putNumber_X3_isRoot : GoodIn wsX3_putNumber wsX3_isRoot := goodIn_r _ [5] (by decide +kernel) (by decide +kernel)
set_option maxRecDepth 20000 in
theorem gX3_putNumber_X3_isRoot : GoodIn wsX3_putNumber (va_wsS RX3 112 yX3_isRoot wsX3_isRoot) := goodIn_app (goodIn_of _ (by decide +kernel)) ggX3_putNumber_X3_isRoot
set_option maxRecDepth 20000 in
theorem ggX3_putNumber_X3_hasField : GoodIn wsX3_putNumber wsX3_hasField := goodIn_r _ [9, 10, 11, 12, 13, 14, 15, 4, 16, 79, 80, 81, 82, 83, 84, 85, 86, 87, 88, 89, 90, 91, 92, 93, 94, 95, 96, 97, 98, 99, 100] (by decide +kernel) (by decide +kernel)
set_option maxRecDepth 20000 in
theorem gX3_putNumber_X3_hasField : GoodIn wsX3_putNumber (wsV RX3 130 RX3 yX3_hasField wsX3_hasField) := goodIn_app (goodIn_of _ (by decide +kernel)) ggX3_putNumber_X3_hasField
set_option maxRecDepth 20000 in
theorem ggX3_putNumber_X3_change : GoodIn wsX3_putNumber wsX3_change := goodIn_r _ [20, 12, 13, 21, 11, 22, 23, 24, 25, 26, 14, 15, 4, 16, 27, 28, 29, 30, 31, 32, 33, 34, 35, 36, 37, 38, 39, 40, 41, 42, 43, 44, 45, 46, 47, 48, 49, 50, 51, 52, 53, 54, 55, 56, 57, 58, 59, 60, 61, 62, 63, 64, 65, 66, 67, 68, 10, 69, 70, 71, 72, 73, 74, 75, 76, 77, 78, 79, 80, 81, 82, 83, 84, 85, 86, 87, 88, 89, 90, 91, 92, 93, 94, 95, 96, 97, 98, 99, 100] (by decide +kernel) (by decide +kernel)
set_option maxRecDepth 20000 in
theorem gX3_putNumber_X3_change : GoodIn wsX3_putNumber (wsV RX3 134 RX3 yX3_change wsX3_change) := goodIn_app (goodIn_of _ (by decide +kernel)) ggX3_putNumber_X3_change
theorem dX3_putNumber_0 : decode cX3_putNumber 0 = .ok (.aload_n 0, 1) := by decide +kernel
theorem dX3_putNumber_1 : decode cX3_putNumber 1 = .ok (.iload_n 1, 1) := by decide +kernel
theorem dX3_putNumber_2 : decode cX3_putNumber 2 = .ok (.invokestatic 112, 3) := by decide +kernel
theorem dX3_putNumber_5 : decode cX3_putNumber 5 = .ok (.ifCond .ne 7, 3) := by decide +kernel
theorem dX3_putNumber_8 : decode cX3_putNumber 8 = .ok (.iconst 1, 1) := by decide +kernel
theorem dX3_putNumber_9 : decode cX3_putNumber 9 = .ok (.goto 17, 3) := by decide +kernel
theorem dX3_putNumber_12 : decode cX3_putNumber 12 = .ok (.aload_n 0, 1) := by decide +kernel
theorem dX3_putNumber_13 : decode cX3_putNumber 13 = .ok (.iload_n 1, 1) := by decide +kernel
theorem dX3_putNumber_14 : decode cX3_putNumber 14 = .ok (.iload_n 2, 1) := by decide +kernel
theorem dX3_putNumber_15 : decode cX3_putNumber 15 = .ok (.invokevirtual 130, 3) := by decide +kernel
theorem dX3_putNumber_18 : decode cX3_putNumber 18 = .ok (.ifCond .ne 7, 3) := by decide +kernel
theorem dX3_putNumber_21 : decode cX3_putNumber 21 = .ok (.iconst 2, 1) := by decide +kernel
theorem dX3_putNumber_22 : decode cX3_putNumber 22 = .ok (.goto 4, 3) := by decide +kernel
theorem dX3_putNumber_25 : decode cX3_putNumber 25 = .ok (.iconst 0, 1) := by decide +kernel
theorem dX3_putNumber_26 : decode cX3_putNumber 26 = .ok (.putfield 42, 3) := by decide +kernel
theorem dX3_putNumber_29 : decode cX3_putNumber 29 = .ok (.aload_n 0, 1) := by decide +kernel
theorem dX3_putNumber_30 : decode cX3_putNumber 30 = .ok (.getfield 42, 3) := by decide +kernel
theorem dX3_putNumber_33 : decode cX3_putNumber 33 = .ok (.ifCond .ne 11, 3) := by decide +kernel
theorem dX3_putNumber_36 : decode cX3_putNumber 36 = .ok (.aload_n 0, 1) := by decide +kernel
theorem dX3_putNumber_37 : decode cX3_putNumber 37 = .ok (.iload_n 1, 1) := by decide +kernel
theorem dX3_putNumber_38 : decode cX3_putNumber 38 = .ok (.iload_n 2, 1) := by decide +kernel
theorem dX3_putNumber_39 : decode cX3_putNumber 39 = .ok (.iconst 0, 1) := by decide +kernel
theorem dX3_putNumber_40 : decode cX3_putNumber 40 = .ok (.iload_n 3, 1) := by decide +kernel
theorem dX3_putNumber_41 : decode cX3_putNumber 41 = .ok (.invokevirtual 134, 3) := by decide +kernel
theorem dX3_putNumber_44 : decode cX3_putNumber 44 = .ok (.return_, 1) := by decide +kernel
set_option maxRecDepth 20000 in
theorem ggX3_get_X3_isRoot : GoodIn wsX3_get wsX3_isRoot := goodIn_r _ [10] (by decide +kernel) (by decide +kernel)
set_option maxRecDepth 20000 in
theorem gX3_get_X3_isRoot : GoodIn wsX3_get (va_wsS RX3 112 yX3_isRoot wsX3_isRoot) := goodIn_app (goodIn_of _ (by decide +kernel)) ggX3_get_X3_isRoot
set_option maxRecDepth 20000 in
theorem ggX3_get_X3_hasField : GoodIn wsX3_get wsX3_hasField := goodIn_r _ [14, 4, 6, 2, 3, 15, 16, 9, 17, 18, 19, 20, 21, 22, 23, 24, 25, 26, 27, 28, 29, 30, 31, 32, 33, 34, 35, 36, 37, 38, 39] (by decide +kernel) (by decide +kernel)
set_option maxRecDepth 20000 in
theorem gX3_get_X3_hasField : GoodIn wsX3_get (wsV RX3 130 RX3 yX3_hasField wsX3_hasField) := goodIn_app (goodIn_of _ (by decide +kernel)) ggX3_get_X3_hasField
set_option maxRecDepth 20000 in
theorem ggX3_get_X3_at : GoodIn wsX3_get wsX3_at := goodIn_r _ [17] (by decide +kernel) (by decide +kernel)
set_option maxRecDepth 20000 in
theorem gX3_get_X3_at : GoodIn wsX3_get (va_wsS RX3 48 yX3_at wsX3_at) := goodIn_app (goodIn_of _ (by decide +kernel)) ggX3_get_X3_at
theorem dX3_get_0 : decode cX3_get 0 = .ok (.aload_n 0, 1) := by decide +kernel
theorem dX3_get_1 : decode cX3_get 1 = .ok (.iload_n 1, 1) := by decide +kernel
theorem dX3_get_2 : decode cX3_get 2 = .ok (.invokestatic 112, 3) := by decide +kernel
theorem dX3_get_5 : decode cX3_get 5 = .ok (.ifCond .eq 10, 3) := by decide +kernel
theorem dX3_get_8 : decode cX3_get 8 = .ok (.iload_n 2, 1) := by decide +kernel
theorem dX3_get_9 : decode cX3_get 9 = .ok (.invokestatic 112, 3) := by decide +kernel
theorem dX3_get_12 : decode cX3_get 12 = .ok (.ifCond .ne 7, 3) := by decide +kernel
theorem dX3_get_15 : decode cX3_get 15 = .ok (.iconst 1, 1) := by decide +kernel
theorem dX3_get_16 : decode cX3_get 16 = .ok (.goto 17, 3) := by decide +kernel
theorem dX3_get_19 : decode cX3_get 19 = .ok (.aload_n 0, 1) := by decide +kernel
theorem dX3_get_20 : decode cX3_get 20 = .ok (.iload_n 2, 1) := by decide +kernel
theorem dX3_get_21 : decode cX3_get 21 = .ok (.iload_n 3, 1) := by decide +kernel
theorem dX3_get_22 : decode cX3_get 22 = .ok (.invokevirtual 130, 3) := by decide +kernel
theorem dX3_get_25 : decode cX3_get 25 = .ok (.ifCond .ne 7, 3) := by decide +kernel
theorem dX3_get_28 : decode cX3_get 28 = .ok (.iconst 2, 1) := by decide +kernel
theorem dX3_get_29 : decode cX3_get 29 = .ok (.goto 4, 3) := by decide +kernel
theorem dX3_get_32 : decode cX3_get 32 = .ok (.iconst 0, 1) := by decide +kernel
theorem dX3_get_33 : decode cX3_get 33 = .ok (.putfield 42, 3) := by decide +kernel
theorem dX3_get_36 : decode cX3_get 36 = .ok (.aload_n 0, 1) := by decide +kernel
theorem dX3_get_37 : decode cX3_get 37 = .ok (.getfield 42, 3) := by decide +kernel
theorem dX3_get_40 : decode cX3_get 40 = .ok (.ifCond .le 4, 3) := by decide +kernel
theorem dX3_get_43 : decode cX3_get 43 = .ok (.return_, 1) := by decide +kernel
theorem dX3_get_44 : decode cX3_get 44 = .ok (.aload_n 0, 1) := by decide +kernel
theorem dX3_get_45 : decode cX3_get 45 = .ok (.getfield 45, 3) := by decide +kernel
theorem dX3_get_48 : decode cX3_get 48 = .ok (.aload_n 0, 1) := by decide +kernel
theorem dX3_get_49 : decode cX3_get 49 = .ok (.getfield 26, 3) := by decide +kernel
theorem dX3_get_52 : decode cX3_get 52 = .ok (.iload_n 2, 1) := by decide +kernel
theorem dX3_get_53 : decode cX3_get 53 = .ok (.iaload, 1) := by decide +kernel
theorem dX3_get_54 : decode cX3_get 54 = .ok (.invokestatic 48, 3) := by decide +kernel
theorem dX3_get_57 : decode cX3_get 57 = .ok (.iconst 1, 1) := by decide +kernel
theorem dX3_get_58 : decode cX3_get 58 = .ok (.iadd, 1) := by decide +kernel
theorem dX3_get_59 : decode cX3_get 59 = .ok (.iload_n 3, 1) := by decide +kernel
theorem dX3_get_60 : decode cX3_get 60 = .ok (.iadd, 1) := by decide +kernel
theorem dX3_get_61 : decode cX3_get 61 = .ok (.istore 4, 2) := by decide +kernel
theorem dX3_get_63 : decode cX3_get 63 = .ok (.aload_n 0, 1) := by decide +kernel
theorem dX3_get_64 : decode cX3_get 64 = .ok (.getfield 22, 3) := by decide +kernel
theorem dX3_get_67 : decode cX3_get 67 = .ok (.iload_n 1, 1) := by decide +kernel
theorem dX3_get_68 : decode cX3_get 68 = .ok (.aload_n 0, 1) := by decide +kernel
theorem dX3_get_69 : decode cX3_get 69 = .ok (.getfield 7, 3) := by decide +kernel
theorem dX3_get_72 : decode cX3_get 72 = .ok (.iload 4, 2) := by decide +kernel
theorem dX3_get_74 : decode cX3_get 74 = .ok (.iaload, 1) := by decide +kernel
theorem dX3_get_75 : decode cX3_get 75 = .ok (.ifCond .eq 7, 3) := by decide +kernel
theorem dX3_get_78 : decode cX3_get 78 = .ok (.iconst 1, 1) := by decide +kernel
theorem dX3_get_79 : decode cX3_get 79 = .ok (.goto 4, 3) := by decide +kernel
theorem dX3_get_82 : decode cX3_get 82 = .ok (.iconst 0, 1) := by decide +kernel
theorem dX3_get_83 : decode cX3_get 83 = .ok (.bastore, 1) := by decide +kernel
theorem dX3_get_84 : decode cX3_get 84 = .ok (.aload_n 0, 1) := by decide +kernel
theorem dX3_get_85 : decode cX3_get 85 = .ok (.getfield 26, 3) := by decide +kernel
theorem dX3_get_88 : decode cX3_get 88 = .ok (.iload_n 1, 1) := by decide +kernel
theorem dX3_get_89 : decode cX3_get 89 = .ok (.aload_n 0, 1) := by decide +kernel
theorem dX3_get_90 : decode cX3_get 90 = .ok (.getfield 13, 3) := by decide +kernel
theorem dX3_get_93 : decode cX3_get 93 = .ok (.iload 4, 2) := by decide +kernel
theorem dX3_get_95 : decode cX3_get 95 = .ok (.iaload, 1) := by decide +kernel
theorem dX3_get_96 : decode cX3_get 96 = .ok (.iastore, 1) := by decide +kernel
theorem dX3_get_97 : decode cX3_get 97 = .ok (.return_, 1) := by decide +kernel
set_option maxRecDepth 20000 in
theorem ggX3_move_X3_isRoot : GoodIn wsX3_move wsX3_isRoot := goodIn_r _ [7] (by decide +kernel) (by decide +kernel)
set_option maxRecDepth 20000 in
theorem gX3_move_X3_isRoot : GoodIn wsX3_move (va_wsS RX3 112 yX3_isRoot wsX3_isRoot) := goodIn_app (goodIn_of _ (by decide +kernel)) ggX3_move_X3_isRoot
theorem dX3_move_0 : decode cX3_move 0 = .ok (.aload_n 0, 1) := by decide +kernel
theorem dX3_move_1 : decode cX3_move 1 = .ok (.iconst 0, 1) := by decide +kernel
theorem dX3_move_2 : decode cX3_move 2 = .ok (.putfield 42, 3) := by decide +kernel
theorem dX3_move_5 : decode cX3_move 5 = .ok (.iload_n 1, 1) := by decide +kernel
theorem dX3_move_6 : decode cX3_move 6 = .ok (.invokestatic 112, 3) := by decide +kernel
theorem dX3_move_9 : decode cX3_move 9 = .ok (.ifCond .eq 10, 3) := by decide +kernel
theorem dX3_move_12 : decode cX3_move 12 = .ok (.iload_n 2, 1) := by decide +kernel
theorem dX3_move_13 : decode cX3_move 13 = .ok (.invokestatic 112, 3) := by decide +kernel
theorem dX3_move_16 : decode cX3_move 16 = .ok (.ifCond .ne 5, 3) := by decide +kernel
theorem dX3_move_19 : decode cX3_move 19 = .ok (.iconst 0, 1) := by decide +kernel
theorem dX3_move_20 : decode cX3_move 20 = .ok (.ireturn, 1) := by decide +kernel
theorem dX3_move_21 : decode cX3_move 21 = .ok (.aload_n 0, 1) := by decide +kernel
theorem dX3_move_22 : decode cX3_move 22 = .ok (.getfield 22, 3) := by decide +kernel
theorem dX3_move_25 : decode cX3_move 25 = .ok (.iload_n 1, 1) := by decide +kernel
theorem dX3_move_26 : decode cX3_move 26 = .ok (.aload_n 0, 1) := by decide +kernel
theorem dX3_move_27 : decode cX3_move 27 = .ok (.getfield 22, 3) := by decide +kernel
theorem dX3_move_30 : decode cX3_move 30 = .ok (.iload_n 2, 1) := by decide +kernel
theorem dX3_move_31 : decode cX3_move 31 = .ok (.baload, 1) := by decide +kernel
theorem dX3_move_32 : decode cX3_move 32 = .ok (.bastore, 1) := by decide +kernel
theorem dX3_move_33 : decode cX3_move 33 = .ok (.aload_n 0, 1) := by decide +kernel
theorem dX3_move_34 : decode cX3_move 34 = .ok (.getfield 26, 3) := by decide +kernel
theorem dX3_move_37 : decode cX3_move 37 = .ok (.iload_n 1, 1) := by decide +kernel
theorem dX3_move_38 : decode cX3_move 38 = .ok (.aload_n 0, 1) := by decide +kernel
theorem dX3_move_39 : decode cX3_move 39 = .ok (.getfield 26, 3) := by decide +kernel
theorem dX3_move_42 : decode cX3_move 42 = .ok (.iload_n 2, 1) := by decide +kernel
theorem dX3_move_43 : decode cX3_move 43 = .ok (.iaload, 1) := by decide +kernel
theorem dX3_move_44 : decode cX3_move 44 = .ok (.iastore, 1) := by decide +kernel
theorem dX3_move_45 : decode cX3_move 45 = .ok (.iconst 1, 1) := by decide +kernel
theorem dX3_move_46 : decode cX3_move 46 = .ok (.ireturn, 1) := by decide +kernel
set_option maxRecDepth 20000 in
theorem ggX3_number_X3_isRoot : GoodIn wsX3_number wsX3_isRoot := goodIn_r _ [7] (by decide +kernel) (by decide +kernel)
set_option maxRecDepth 20000 in
theorem gX3_number_X3_isRoot : GoodIn wsX3_number (va_wsS RX3 112 yX3_isRoot wsX3_isRoot) := goodIn_app (goodIn_of _ (by decide +kernel)) ggX3_number_X3_isRoot
theorem dX3_number_0 : decode cX3_number 0 = .ok (.aload_n 0, 1) := by decide +kernel
theorem dX3_number_1 : decode cX3_number 1 = .ok (.iconst 0, 1) := by decide +kernel
theorem dX3_number_2 : decode cX3_number 2 = .ok (.putfield 42, 3) := by decide +kernel
theorem dX3_number_5 : decode cX3_number 5 = .ok (.iload_n 1, 1) := by decide +kernel
theorem dX3_number_6 : decode cX3_number 6 = .ok (.invokestatic 112, 3) := by decide +kernel
theorem dX3_number_9 : decode cX3_number 9 = .ok (.ifCond .ne 5, 3) := by decide +kernel
theorem dX3_number_12 : decode cX3_number 12 = .ok (.iconst 0, 1) := by decide +kernel
theorem dX3_number_13 : decode cX3_number 13 = .ok (.ireturn, 1) := by decide +kernel
theorem dX3_number_14 : decode cX3_number 14 = .ok (.aload_n 0, 1) := by decide +kernel
theorem dX3_number_15 : decode cX3_number 15 = .ok (.getfield 22, 3) := by decide +kernel
theorem dX3_number_18 : decode cX3_number 18 = .ok (.iload_n 1, 1) := by decide +kernel
theorem dX3_number_19 : decode cX3_number 19 = .ok (.iconst 0, 1) := by decide +kernel
theorem dX3_number_20 : decode cX3_number 20 = .ok (.bastore, 1) := by decide +kernel
theorem dX3_number_21 : decode cX3_number 21 = .ok (.aload_n 0, 1) := by decide +kernel
theorem dX3_number_22 : decode cX3_number 22 = .ok (.getfield 26, 3) := by decide +kernel
theorem dX3_number_25 : decode cX3_number 25 = .ok (.iload_n 1, 1) := by decide +kernel
theorem dX3_number_26 : decode cX3_number 26 = .ok (.iload_n 2, 1) := by decide +kernel
theorem dX3_number_27 : decode cX3_number 27 = .ok (.iastore, 1) := by decide +kernel
theorem dX3_number_28 : decode cX3_number 28 = .ok (.iconst 1, 1) := by decide +kernel
theorem dX3_number_29 : decode cX3_number 29 = .ok (.ireturn, 1) := by decide +kernel
set_option maxRecDepth 20000 in
theorem ggX3_collect_X3_open : GoodIn wsX3_collect wsX3_open := goodIn_r _ [6, 7, 8, 71, 72, 73, 74, 75, 76, 77, 78, 79, 80, 81, 82, 83, 84, 85, 86, 87, 88, 89, 90, 91, 92] (by decide +kernel) (by decide +kernel)
set_option maxRecDepth 20000 in
theorem gX3_collect_X3_open : GoodIn wsX3_collect (wsV RX3 116 RX3 yX3_open wsX3_open) := goodIn_app (goodIn_of _ (by decide +kernel)) ggX3_collect_X3_open
set_option maxRecDepth 20000 in
theorem ggX3_collect_X3_begin : GoodIn wsX3_collect wsX3_begin := goodIn_r _ [12, 13, 14, 15, 16, 17, 18, 19, 20, 5, 21, 22, 71, 72, 73, 74, 75, 76, 77, 78, 79, 80, 81, 82, 83, 84, 85, 86, 87, 88, 89, 90, 91, 92] (by decide +kernel) (by decide +kernel)
set_option maxRecDepth 20000 in
theorem gX3_collect_X3_begin : GoodIn wsX3_collect (wsV RX3 106 RX3 yX3_begin wsX3_begin) := goodIn_app (goodIn_of _ (by decide +kernel)) ggX3_collect_X3_begin
set_option maxRecDepth 20000 in
theorem ggX3_collect_X3_work : GoodIn wsX3_collect wsX3_work := goodIn_r _ [26, 13, 27, 28, 29, 5, 30, 16, 15, 14, 17, 31, 7, 32, 33, 34, 35, 36, 37, 22, 38, 39, 40, 41, 42, 43, 18, 19, 20, 21, 44, 45, 46, 47, 48, 49, 50, 51, 52, 53, 54, 55, 56, 57, 58, 59, 60, 61, 62, 63, 64, 65, 71, 72, 73, 74, 75, 76, 77, 78, 79, 80, 81, 82, 83, 84, 85, 86, 87, 88, 89, 90, 91, 92] (by decide +kernel) (by decide +kernel)
set_option maxRecDepth 20000 in
theorem gX3_collect_X3_work : GoodIn wsX3_collect (wsV RX3 109 RX3 yX3_work wsX3_work) := goodIn_app (goodIn_of _ (by decide +kernel)) ggX3_collect_X3_work
set_option maxRecDepth 20000 in
theorem ggX3_collect_X3_close : GoodIn wsX3_collect wsX3_close := goodIn_r _ [69, 7, 8, 70, 71, 72, 73, 74, 75, 76, 77, 78, 79, 80, 81, 82, 83, 84, 85, 86, 87, 88, 89, 90, 91, 92] (by decide +kernel) (by decide +kernel)
set_option maxRecDepth 20000 in
theorem gX3_collect_X3_close : GoodIn wsX3_collect (wsV RX3 127 RX3 yX3_close wsX3_close) := goodIn_app (goodIn_of _ (by decide +kernel)) ggX3_collect_X3_close
theorem dX3_collect_0 : decode cX3_collect 0 = .ok (.aload_n 0, 1) := by decide +kernel
theorem dX3_collect_1 : decode cX3_collect 1 = .ok (.iload_n 1, 1) := by decide +kernel
theorem dX3_collect_2 : decode cX3_collect 2 = .ok (.iconst (-1), 1) := by decide +kernel
theorem dX3_collect_3 : decode cX3_collect 3 = .ok (.if_icmp .ge 7, 3) := by decide +kernel
theorem dX3_collect_6 : decode cX3_collect 6 = .ok (.iconst 1, 1) := by decide +kernel
theorem dX3_collect_7 : decode cX3_collect 7 = .ok (.goto 4, 3) := by decide +kernel
theorem dX3_collect_10 : decode cX3_collect 10 = .ok (.iconst 0, 1) := by decide +kernel
theorem dX3_collect_11 : decode cX3_collect 11 = .ok (.putfield 42, 3) := by decide +kernel
theorem dX3_collect_14 : decode cX3_collect 14 = .ok (.aload_n 0, 1) := by decide +kernel
theorem dX3_collect_15 : decode cX3_collect 15 = .ok (.getfield 42, 3) := by decide +kernel
theorem dX3_collect_18 : decode cX3_collect 18 = .ok (.ifCond .le 5, 3) := by decide +kernel
theorem dX3_collect_21 : decode cX3_collect 21 = .ok (.iconst 0, 1) := by decide +kernel
theorem dX3_collect_22 : decode cX3_collect 22 = .ok (.ireturn, 1) := by decide +kernel
theorem dX3_collect_23 : decode cX3_collect 23 = .ok (.aload_n 0, 1) := by decide +kernel
theorem dX3_collect_24 : decode cX3_collect 24 = .ok (.invokevirtual 116, 3) := by decide +kernel
theorem dX3_collect_27 : decode cX3_collect 27 = .ok (.aload_n 0, 1) := by decide +kernel
theorem dX3_collect_28 : decode cX3_collect 28 = .ok (.invokevirtual 106, 3) := by decide +kernel
theorem dX3_collect_31 : decode cX3_collect 31 = .ok (.aload_n 0, 1) := by decide +kernel
theorem dX3_collect_32 : decode cX3_collect 32 = .ok (.iload_n 1, 1) := by decide +kernel
theorem dX3_collect_33 : decode cX3_collect 33 = .ok (.invokevirtual 109, 3) := by decide +kernel
theorem dX3_collect_36 : decode cX3_collect 36 = .ok (.istore_n 2, 1) := by decide +kernel
theorem dX3_collect_37 : decode cX3_collect 37 = .ok (.aload_n 0, 1) := by decide +kernel
theorem dX3_collect_38 : decode cX3_collect 38 = .ok (.invokevirtual 127, 3) := by decide +kernel
theorem dX3_collect_41 : decode cX3_collect 41 = .ok (.iload_n 2, 1) := by decide +kernel
theorem dX3_collect_42 : decode cX3_collect 42 = .ok (.ireturn, 1) := by decide +kernel
set_option maxRecDepth 20000 in
theorem ggX3_look__X3_isRoot : GoodIn wsX3_look_ wsX3_isRoot := goodIn_r _ [10] (by decide +kernel) (by decide +kernel)
set_option maxRecDepth 20000 in
theorem gX3_look__X3_isRoot : GoodIn wsX3_look_ (va_wsS RX3 112 yX3_isRoot wsX3_isRoot) := goodIn_app (goodIn_of _ (by decide +kernel)) ggX3_look__X3_isRoot
set_option maxRecDepth 20000 in
theorem ggX3_look__X3_at : GoodIn wsX3_look_ wsX3_at := goodIn_r _ [13] (by decide +kernel) (by decide +kernel)
set_option maxRecDepth 20000 in
theorem gX3_look__X3_at : GoodIn wsX3_look_ (va_wsS RX3 48 yX3_at wsX3_at) := goodIn_app (goodIn_of _ (by decide +kernel)) ggX3_look__X3_at
theorem dX3_look__0 : decode cX3_look_ 0 = .ok (.aload_n 0, 1) := by decide +kernel
theorem dX3_look__1 : decode cX3_look_ 1 = .ok (.iload_n 1, 1) := by decide +kernel
theorem dX3_look__2 : decode cX3_look_ 2 = .ok (.invokestatic 112, 3) := by decide +kernel
theorem dX3_look__5 : decode cX3_look_ 5 = .ok (.ifCond .eq 16, 3) := by decide +kernel
theorem dX3_look__8 : decode cX3_look_ 8 = .ok (.iload_n 2, 1) := by decide +kernel
theorem dX3_look__9 : decode cX3_look_ 9 = .ok (.ifCond .lt 12, 3) := by decide +kernel
theorem dX3_look__12 : decode cX3_look_ 12 = .ok (.iload_n 2, 1) := by decide +kernel
theorem dX3_look__13 : decode cX3_look_ 13 = .ok (.iconst 4, 1) := by decide +kernel
theorem dX3_look__14 : decode cX3_look_ 14 = .ok (.if_icmp .ge 7, 3) := by decide +kernel
theorem dX3_look__17 : decode cX3_look_ 17 = .ok (.iconst 0, 1) := by decide +kernel
theorem dX3_look__18 : decode cX3_look_ 18 = .ok (.goto 4, 3) := by decide +kernel
theorem dX3_look__21 : decode cX3_look_ 21 = .ok (.iconst 1, 1) := by decide +kernel
theorem dX3_look__22 : decode cX3_look_ 22 = .ok (.putfield 42, 3) := by decide +kernel
theorem dX3_look__25 : decode cX3_look_ 25 = .ok (.aload_n 0, 1) := by decide +kernel
theorem dX3_look__26 : decode cX3_look_ 26 = .ok (.getfield 42, 3) := by decide +kernel
theorem dX3_look__29 : decode cX3_look_ 29 = .ok (.ifCond .le 5, 3) := by decide +kernel
theorem dX3_look__32 : decode cX3_look_ 32 = .ok (.iconst 0, 1) := by decide +kernel
theorem dX3_look__33 : decode cX3_look_ 33 = .ok (.ireturn, 1) := by decide +kernel
theorem dX3_look__34 : decode cX3_look_ 34 = .ok (.aload_n 0, 1) := by decide +kernel
theorem dX3_look__35 : decode cX3_look_ 35 = .ok (.getfield 45, 3) := by decide +kernel
theorem dX3_look__38 : decode cX3_look_ 38 = .ok (.aload_n 0, 1) := by decide +kernel
theorem dX3_look__39 : decode cX3_look_ 39 = .ok (.getfield 22, 3) := by decide +kernel
theorem dX3_look__42 : decode cX3_look_ 42 = .ok (.iload_n 1, 1) := by decide +kernel
theorem dX3_look__43 : decode cX3_look_ 43 = .ok (.baload, 1) := by decide +kernel
theorem dX3_look__44 : decode cX3_look_ 44 = .ok (.ifCond .eq 12, 3) := by decide +kernel
theorem dX3_look__47 : decode cX3_look_ 47 = .ok (.aload_n 0, 1) := by decide +kernel
theorem dX3_look__48 : decode cX3_look_ 48 = .ok (.getfield 26, 3) := by decide +kernel
theorem dX3_look__51 : decode cX3_look_ 51 = .ok (.iload_n 1, 1) := by decide +kernel
theorem dX3_look__52 : decode cX3_look_ 52 = .ok (.iaload, 1) := by decide +kernel
theorem dX3_look__53 : decode cX3_look_ 53 = .ok (.goto 4, 3) := by decide +kernel
theorem dX3_look__56 : decode cX3_look_ 56 = .ok (.iconst 0, 1) := by decide +kernel
theorem dX3_look__57 : decode cX3_look_ 57 = .ok (.invokestatic 48, 3) := by decide +kernel
theorem dX3_look__60 : decode cX3_look_ 60 = .ok (.istore_n 3, 1) := by decide +kernel
theorem dX3_look__61 : decode cX3_look_ 61 = .ok (.iload_n 2, 1) := by decide +kernel
theorem dX3_look__62 : decode cX3_look_ 62 = .ok (.tableswitch 68 0 2 #[26, 41, 48], 26) := by decide +kernel
theorem dX3_look__88 : decode cX3_look_ 88 = .ok (.aload_n 0, 1) := by decide +kernel
theorem dX3_look__89 : decode cX3_look_ 89 = .ok (.getfield 22, 3) := by decide +kernel
theorem dX3_look__92 : decode cX3_look_ 92 = .ok (.iload_n 1, 1) := by decide +kernel
theorem dX3_look__93 : decode cX3_look_ 93 = .ok (.baload, 1) := by decide +kernel
theorem dX3_look__94 : decode cX3_look_ 94 = .ok (.ifCond .eq 7, 3) := by decide +kernel
theorem dX3_look__97 : decode cX3_look_ 97 = .ok (.iconst 1, 1) := by decide +kernel
theorem dX3_look__98 : decode cX3_look_ 98 = .ok (.goto 4, 3) := by decide +kernel
theorem dX3_look__101 : decode cX3_look_ 101 = .ok (.iconst 0, 1) := by decide +kernel
theorem dX3_look__102 : decode cX3_look_ 102 = .ok (.ireturn, 1) := by decide +kernel
theorem dX3_look__103 : decode cX3_look_ 103 = .ok (.aload_n 0, 1) := by decide +kernel
theorem dX3_look__104 : decode cX3_look_ 104 = .ok (.getfield 26, 3) := by decide +kernel
theorem dX3_look__107 : decode cX3_look_ 107 = .ok (.iload_n 1, 1) := by decide +kernel
theorem dX3_look__108 : decode cX3_look_ 108 = .ok (.iaload, 1) := by decide +kernel
theorem dX3_look__109 : decode cX3_look_ 109 = .ok (.ireturn, 1) := by decide +kernel
theorem dX3_look__110 : decode cX3_look_ 110 = .ok (.aload_n 0, 1) := by decide +kernel
theorem dX3_look__111 : decode cX3_look_ 111 = .ok (.getfield 22, 3) := by decide +kernel
theorem dX3_look__114 : decode cX3_look_ 114 = .ok (.iload_n 1, 1) := by decide +kernel
theorem dX3_look__115 : decode cX3_look_ 115 = .ok (.baload, 1) := by decide +kernel
theorem dX3_look__116 : decode cX3_look_ 116 = .ok (.ifCond .eq 12, 3) := by decide +kernel
theorem dX3_look__119 : decode cX3_look_ 119 = .ok (.aload_n 0, 1) := by decide +kernel
theorem dX3_look__120 : decode cX3_look_ 120 = .ok (.getfield 13, 3) := by decide +kernel
theorem dX3_look__123 : decode cX3_look_ 123 = .ok (.iload_n 3, 1) := by decide +kernel
theorem dX3_look__124 : decode cX3_look_ 124 = .ok (.iaload, 1) := by decide +kernel
theorem dX3_look__125 : decode cX3_look_ 125 = .ok (.goto 4, 3) := by decide +kernel
theorem dX3_look__128 : decode cX3_look_ 128 = .ok (.iconst 0, 1) := by decide +kernel
theorem dX3_look__129 : decode cX3_look_ 129 = .ok (.ireturn, 1) := by decide +kernel
theorem dX3_look__130 : decode cX3_look_ 130 = .ok (.aload_n 0, 1) := by decide +kernel
theorem dX3_look__131 : decode cX3_look_ 131 = .ok (.getfield 22, 3) := by decide +kernel
theorem dX3_look__134 : decode cX3_look_ 134 = .ok (.iload_n 1, 1) := by decide +kernel
theorem dX3_look__135 : decode cX3_look_ 135 = .ok (.baload, 1) := by decide +kernel
theorem dX3_look__136 : decode cX3_look_ 136 = .ok (.ifCond .eq 12, 3) := by decide +kernel
theorem dX3_look__139 : decode cX3_look_ 139 = .ok (.aload_n 0, 1) := by decide +kernel
theorem dX3_look__140 : decode cX3_look_ 140 = .ok (.getfield 16, 3) := by decide +kernel
theorem dX3_look__143 : decode cX3_look_ 143 = .ok (.iload_n 3, 1) := by decide +kernel
theorem dX3_look__144 : decode cX3_look_ 144 = .ok (.iaload, 1) := by decide +kernel
theorem dX3_look__145 : decode cX3_look_ 145 = .ok (.goto 4, 3) := by decide +kernel
theorem dX3_look__148 : decode cX3_look_ 148 = .ok (.iconst (-1), 1) := by decide +kernel
theorem dX3_look__149 : decode cX3_look_ 149 = .ok (.ireturn, 1) := by decide +kernel
set_option maxRecDepth 20000 in
theorem ggX3_field_X3_isRoot : GoodIn wsX3_field wsX3_isRoot := goodIn_r _ [9] (by decide +kernel) (by decide +kernel)
set_option maxRecDepth 20000 in
theorem gX3_field_X3_isRoot : GoodIn wsX3_field (va_wsS RX3 112 yX3_isRoot wsX3_isRoot) := goodIn_app (goodIn_of _ (by decide +kernel)) ggX3_field_X3_isRoot
set_option maxRecDepth 20000 in
theorem ggX3_field_X3_hasField : GoodIn wsX3_field wsX3_hasField := goodIn_r _ [13, 14, 4, 2, 3, 15, 16, 8, 17, 18, 19, 20, 21, 22, 23, 24, 25, 26, 27, 28, 29, 30, 31, 32, 33, 34, 35, 36, 37, 38, 39] (by decide +kernel) (by decide +kernel)
set_option maxRecDepth 20000 in
theorem gX3_field_X3_hasField : GoodIn wsX3_field (wsV RX3 130 RX3 yX3_hasField wsX3_hasField) := goodIn_app (goodIn_of _ (by decide +kernel)) ggX3_field_X3_hasField
set_option maxRecDepth 20000 in
theorem ggX3_field_X3_at : GoodIn wsX3_field wsX3_at := goodIn_r _ [17] (by decide +kernel) (by decide +kernel)
set_option maxRecDepth 20000 in
theorem gX3_field_X3_at : GoodIn wsX3_field (va_wsS RX3 48 yX3_at wsX3_at) := goodIn_app (goodIn_of _ (by decide +kernel)) ggX3_field_X3_at
theorem dX3_field_0 : decode cX3_field 0 = .ok (.aload_n 0, 1) := by decide +kernel
theorem dX3_field_1 : decode cX3_field 1 = .ok (.iload_n 1, 1) := by decide +kernel
theorem dX3_field_2 : decode cX3_field 2 = .ok (.invokestatic 112, 3) := by decide +kernel
theorem dX3_field_5 : decode cX3_field 5 = .ok (.ifCond .eq 36, 3) := by decide +kernel
theorem dX3_field_8 : decode cX3_field 8 = .ok (.iload_n 3, 1) := by decide +kernel
theorem dX3_field_9 : decode cX3_field 9 = .ok (.ifCond .lt 32, 3) := by decide +kernel
theorem dX3_field_12 : decode cX3_field 12 = .ok (.iload_n 3, 1) := by decide +kernel
theorem dX3_field_13 : decode cX3_field 13 = .ok (.iconst 2, 1) := by decide +kernel
theorem dX3_field_14 : decode cX3_field 14 = .ok (.if_icmp .ge 27, 3) := by decide +kernel
theorem dX3_field_17 : decode cX3_field 17 = .ok (.aload_n 0, 1) := by decide +kernel
theorem dX3_field_18 : decode cX3_field 18 = .ok (.iload_n 1, 1) := by decide +kernel
theorem dX3_field_19 : decode cX3_field 19 = .ok (.invokestatic 112, 3) := by decide +kernel
theorem dX3_field_22 : decode cX3_field 22 = .ok (.ifCond .eq 7, 3) := by decide +kernel
theorem dX3_field_25 : decode cX3_field 25 = .ok (.iload_n 1, 1) := by decide +kernel
theorem dX3_field_26 : decode cX3_field 26 = .ok (.goto 4, 3) := by decide +kernel
theorem dX3_field_29 : decode cX3_field 29 = .ok (.iconst 0, 1) := by decide +kernel
theorem dX3_field_30 : decode cX3_field 30 = .ok (.iload_n 2, 1) := by decide +kernel
theorem dX3_field_31 : decode cX3_field 31 = .ok (.invokevirtual 130, 3) := by decide +kernel
theorem dX3_field_34 : decode cX3_field 34 = .ok (.ifCond .eq 7, 3) := by decide +kernel
theorem dX3_field_37 : decode cX3_field 37 = .ok (.iconst 0, 1) := by decide +kernel
theorem dX3_field_38 : decode cX3_field 38 = .ok (.goto 4, 3) := by decide +kernel
theorem dX3_field_41 : decode cX3_field 41 = .ok (.iconst 1, 1) := by decide +kernel
theorem dX3_field_42 : decode cX3_field 42 = .ok (.putfield 42, 3) := by decide +kernel
theorem dX3_field_45 : decode cX3_field 45 = .ok (.aload_n 0, 1) := by decide +kernel
theorem dX3_field_46 : decode cX3_field 46 = .ok (.getfield 42, 3) := by decide +kernel
theorem dX3_field_49 : decode cX3_field 49 = .ok (.ifCond .le 5, 3) := by decide +kernel
theorem dX3_field_52 : decode cX3_field 52 = .ok (.iconst 0, 1) := by decide +kernel
theorem dX3_field_53 : decode cX3_field 53 = .ok (.ireturn, 1) := by decide +kernel
theorem dX3_field_54 : decode cX3_field 54 = .ok (.aload_n 0, 1) := by decide +kernel
theorem dX3_field_55 : decode cX3_field 55 = .ok (.getfield 45, 3) := by decide +kernel
theorem dX3_field_58 : decode cX3_field 58 = .ok (.aload_n 0, 1) := by decide +kernel
theorem dX3_field_59 : decode cX3_field 59 = .ok (.getfield 26, 3) := by decide +kernel
theorem dX3_field_62 : decode cX3_field 62 = .ok (.iload_n 1, 1) := by decide +kernel
theorem dX3_field_63 : decode cX3_field 63 = .ok (.iaload, 1) := by decide +kernel
theorem dX3_field_64 : decode cX3_field 64 = .ok (.invokestatic 48, 3) := by decide +kernel
theorem dX3_field_67 : decode cX3_field 67 = .ok (.iconst 1, 1) := by decide +kernel
theorem dX3_field_68 : decode cX3_field 68 = .ok (.iadd, 1) := by decide +kernel
theorem dX3_field_69 : decode cX3_field 69 = .ok (.iload_n 2, 1) := by decide +kernel
theorem dX3_field_70 : decode cX3_field 70 = .ok (.iadd, 1) := by decide +kernel
theorem dX3_field_71 : decode cX3_field 71 = .ok (.istore 4, 2) := by decide +kernel
theorem dX3_field_73 : decode cX3_field 73 = .ok (.iload_n 3, 1) := by decide +kernel
theorem dX3_field_74 : decode cX3_field 74 = .ok (.iconst 1, 1) := by decide +kernel
theorem dX3_field_75 : decode cX3_field 75 = .ok (.if_icmp .ne 13, 3) := by decide +kernel
theorem dX3_field_78 : decode cX3_field 78 = .ok (.aload_n 0, 1) := by decide +kernel
theorem dX3_field_79 : decode cX3_field 79 = .ok (.getfield 13, 3) := by decide +kernel
theorem dX3_field_82 : decode cX3_field 82 = .ok (.iload 4, 2) := by decide +kernel
theorem dX3_field_84 : decode cX3_field 84 = .ok (.iaload, 1) := by decide +kernel
theorem dX3_field_85 : decode cX3_field 85 = .ok (.goto 18, 3) := by decide +kernel
theorem dX3_field_88 : decode cX3_field 88 = .ok (.aload_n 0, 1) := by decide +kernel
theorem dX3_field_89 : decode cX3_field 89 = .ok (.getfield 7, 3) := by decide +kernel
theorem dX3_field_92 : decode cX3_field 92 = .ok (.iload 4, 2) := by decide +kernel
theorem dX3_field_94 : decode cX3_field 94 = .ok (.iaload, 1) := by decide +kernel
theorem dX3_field_95 : decode cX3_field 95 = .ok (.ifCond .ne 7, 3) := by decide +kernel
theorem dX3_field_98 : decode cX3_field 98 = .ok (.iconst 0, 1) := by decide +kernel
theorem dX3_field_99 : decode cX3_field 99 = .ok (.goto 4, 3) := by decide +kernel
theorem dX3_field_102 : decode cX3_field 102 = .ok (.iconst 1, 1) := by decide +kernel
theorem dX3_field_103 : decode cX3_field 103 = .ok (.ireturn, 1) := by decide +kernel
set_option maxRecDepth 20000 in
theorem ggX3_cell_X3_at : GoodIn wsX3_cell wsX3_at := goodIn_r _ [9] (by decide +kernel) (by decide +kernel)
set_option maxRecDepth 20000 in
theorem gX3_cell_X3_at : GoodIn wsX3_cell (va_wsS RX3 48 yX3_at wsX3_at) := goodIn_app (goodIn_of _ (by decide +kernel)) ggX3_cell_X3_at
theorem dX3_cell_0 : decode cX3_cell 0 = .ok (.iload_n 1, 1) := by decide +kernel
theorem dX3_cell_1 : decode cX3_cell 1 = .ok (.ifCond .eq 8, 3) := by decide +kernel
theorem dX3_cell_4 : decode cX3_cell 4 = .ok (.iload_n 1, 1) := by decide +kernel
theorem dX3_cell_5 : decode cX3_cell 5 = .ok (.iconst 1, 1) := by decide +kernel
theorem dX3_cell_6 : decode cX3_cell 6 = .ok (.if_icmp .ne 20, 3) := by decide +kernel
theorem dX3_cell_9 : decode cX3_cell 9 = .ok (.iload_n 3, 1) := by decide +kernel
theorem dX3_cell_10 : decode cX3_cell 10 = .ok (.ifCond .lt 16, 3) := by decide +kernel
theorem dX3_cell_13 : decode cX3_cell 13 = .ok (.iload_n 3, 1) := by decide +kernel
theorem dX3_cell_14 : decode cX3_cell 14 = .ok (.iconst 3, 1) := by decide +kernel
theorem dX3_cell_15 : decode cX3_cell 15 = .ok (.if_icmp .ge 11, 3) := by decide +kernel
theorem dX3_cell_18 : decode cX3_cell 18 = .ok (.iload_n 2, 1) := by decide +kernel
theorem dX3_cell_19 : decode cX3_cell 19 = .ok (.ifCond .lt 7, 3) := by decide +kernel
theorem dX3_cell_22 : decode cX3_cell 22 = .ok (.iconst 1, 1) := by decide +kernel
theorem dX3_cell_23 : decode cX3_cell 23 = .ok (.goto 4, 3) := by decide +kernel
theorem dX3_cell_26 : decode cX3_cell 26 = .ok (.iconst 0, 1) := by decide +kernel
theorem dX3_cell_27 : decode cX3_cell 27 = .ok (.istore 4, 2) := by decide +kernel
theorem dX3_cell_29 : decode cX3_cell 29 = .ok (.aload_n 0, 1) := by decide +kernel
theorem dX3_cell_30 : decode cX3_cell 30 = .ok (.iload 4, 2) := by decide +kernel
theorem dX3_cell_32 : decode cX3_cell 32 = .ok (.ifCond .eq 26, 3) := by decide +kernel
theorem dX3_cell_35 : decode cX3_cell 35 = .ok (.iload_n 2, 1) := by decide +kernel
theorem dX3_cell_36 : decode cX3_cell 36 = .ok (.aload_n 0, 1) := by decide +kernel
theorem dX3_cell_37 : decode cX3_cell 37 = .ok (.getfield 19, 3) := by decide +kernel
theorem dX3_cell_40 : decode cX3_cell 40 = .ok (.iload 4, 2) := by decide +kernel
theorem dX3_cell_42 : decode cX3_cell 42 = .ok (.ifCond .eq 7, 3) := by decide +kernel
theorem dX3_cell_45 : decode cX3_cell 45 = .ok (.iload_n 1, 1) := by decide +kernel
theorem dX3_cell_46 : decode cX3_cell 46 = .ok (.goto 4, 3) := by decide +kernel
theorem dX3_cell_49 : decode cX3_cell 49 = .ok (.iconst 0, 1) := by decide +kernel
theorem dX3_cell_50 : decode cX3_cell 50 = .ok (.iaload, 1) := by decide +kernel
theorem dX3_cell_51 : decode cX3_cell 51 = .ok (.if_icmp .ge 7, 3) := by decide +kernel
theorem dX3_cell_54 : decode cX3_cell 54 = .ok (.iconst 0, 1) := by decide +kernel
theorem dX3_cell_55 : decode cX3_cell 55 = .ok (.goto 4, 3) := by decide +kernel
theorem dX3_cell_58 : decode cX3_cell 58 = .ok (.iconst 1, 1) := by decide +kernel
theorem dX3_cell_59 : decode cX3_cell 59 = .ok (.putfield 42, 3) := by decide +kernel
theorem dX3_cell_62 : decode cX3_cell 62 = .ok (.aload_n 0, 1) := by decide +kernel
theorem dX3_cell_63 : decode cX3_cell 63 = .ok (.getfield 42, 3) := by decide +kernel
theorem dX3_cell_66 : decode cX3_cell 66 = .ok (.ifCond .le 5, 3) := by decide +kernel
theorem dX3_cell_69 : decode cX3_cell 69 = .ok (.iconst 0, 1) := by decide +kernel
theorem dX3_cell_70 : decode cX3_cell 70 = .ok (.ireturn, 1) := by decide +kernel
theorem dX3_cell_71 : decode cX3_cell 71 = .ok (.iload_n 1, 1) := by decide +kernel
theorem dX3_cell_72 : decode cX3_cell 72 = .ok (.iload_n 2, 1) := by decide +kernel
theorem dX3_cell_73 : decode cX3_cell 73 = .ok (.invokestatic 48, 3) := by decide +kernel
theorem dX3_cell_76 : decode cX3_cell 76 = .ok (.istore 5, 2) := by decide +kernel
theorem dX3_cell_78 : decode cX3_cell 78 = .ok (.iload_n 3, 1) := by decide +kernel
theorem dX3_cell_79 : decode cX3_cell 79 = .ok (.ifCond .ne 13, 3) := by decide +kernel
theorem dX3_cell_82 : decode cX3_cell 82 = .ok (.aload_n 0, 1) := by decide +kernel
theorem dX3_cell_83 : decode cX3_cell 83 = .ok (.getfield 7, 3) := by decide +kernel
theorem dX3_cell_86 : decode cX3_cell 86 = .ok (.iload 5, 2) := by decide +kernel
theorem dX3_cell_88 : decode cX3_cell 88 = .ok (.iaload, 1) := by decide +kernel
theorem dX3_cell_89 : decode cX3_cell 89 = .ok (.goto 40, 3) := by decide +kernel
theorem dX3_cell_92 : decode cX3_cell 92 = .ok (.iload_n 3, 1) := by decide +kernel
theorem dX3_cell_93 : decode cX3_cell 93 = .ok (.iconst 1, 1) := by decide +kernel
theorem dX3_cell_94 : decode cX3_cell 94 = .ok (.if_icmp .ne 13, 3) := by decide +kernel
theorem dX3_cell_97 : decode cX3_cell 97 = .ok (.aload_n 0, 1) := by decide +kernel
theorem dX3_cell_98 : decode cX3_cell 98 = .ok (.getfield 13, 3) := by decide +kernel
theorem dX3_cell_101 : decode cX3_cell 101 = .ok (.iload 5, 2) := by decide +kernel
theorem dX3_cell_103 : decode cX3_cell 103 = .ok (.iaload, 1) := by decide +kernel
theorem dX3_cell_104 : decode cX3_cell 104 = .ok (.goto 25, 3) := by decide +kernel
theorem dX3_cell_107 : decode cX3_cell 107 = .ok (.aload_n 0, 1) := by decide +kernel
theorem dX3_cell_108 : decode cX3_cell 108 = .ok (.getfield 7, 3) := by decide +kernel
theorem dX3_cell_111 : decode cX3_cell 111 = .ok (.iload 5, 2) := by decide +kernel
theorem dX3_cell_113 : decode cX3_cell 113 = .ok (.iaload, 1) := by decide +kernel
theorem dX3_cell_114 : decode cX3_cell 114 = .ok (.iconst 3, 1) := by decide +kernel
theorem dX3_cell_115 : decode cX3_cell 115 = .ok (.if_icmp .ne 13, 3) := by decide +kernel
theorem dX3_cell_118 : decode cX3_cell 118 = .ok (.aload_n 0, 1) := by decide +kernel
theorem dX3_cell_119 : decode cX3_cell 119 = .ok (.getfield 16, 3) := by decide +kernel
theorem dX3_cell_122 : decode cX3_cell 122 = .ok (.iload 5, 2) := by decide +kernel
theorem dX3_cell_124 : decode cX3_cell 124 = .ok (.iaload, 1) := by decide +kernel
theorem dX3_cell_125 : decode cX3_cell 125 = .ok (.goto 4, 3) := by decide +kernel
theorem dX3_cell_128 : decode cX3_cell 128 = .ok (.iconst (-1), 1) := by decide +kernel
theorem dX3_cell_129 : decode cX3_cell 129 = .ok (.ireturn, 1) := by decide +kernel
theorem dX3_entry_0 : decode cX3_entry 0 = .ok (.aload_n 0, 1) := by decide +kernel
theorem dX3_entry_1 : decode cX3_entry 1 = .ok (.iload_n 1, 1) := by decide +kernel
theorem dX3_entry_2 : decode cX3_entry 2 = .ok (.ifCond .lt 24, 3) := by decide +kernel
theorem dX3_entry_5 : decode cX3_entry 5 = .ok (.iload_n 1, 1) := by decide +kernel
theorem dX3_entry_6 : decode cX3_entry 6 = .ok (.aload_n 0, 1) := by decide +kernel
theorem dX3_entry_7 : decode cX3_entry 7 = .ok (.getfield 73, 3) := by decide +kernel
theorem dX3_entry_10 : decode cX3_entry 10 = .ok (.if_icmp .ge 16, 3) := by decide +kernel
theorem dX3_entry_13 : decode cX3_entry 13 = .ok (.iload_n 2, 1) := by decide +kernel
theorem dX3_entry_14 : decode cX3_entry 14 = .ok (.ifCond .lt 12, 3) := by decide +kernel
theorem dX3_entry_17 : decode cX3_entry 17 = .ok (.iload_n 2, 1) := by decide +kernel
theorem dX3_entry_18 : decode cX3_entry 18 = .ok (.iconst 2, 1) := by decide +kernel
theorem dX3_entry_19 : decode cX3_entry 19 = .ok (.if_icmp .ge 7, 3) := by decide +kernel
theorem dX3_entry_22 : decode cX3_entry 22 = .ok (.iconst 0, 1) := by decide +kernel
theorem dX3_entry_23 : decode cX3_entry 23 = .ok (.goto 4, 3) := by decide +kernel
theorem dX3_entry_26 : decode cX3_entry 26 = .ok (.iconst 1, 1) := by decide +kernel
theorem dX3_entry_27 : decode cX3_entry 27 = .ok (.putfield 42, 3) := by decide +kernel
theorem dX3_entry_30 : decode cX3_entry 30 = .ok (.aload_n 0, 1) := by decide +kernel
theorem dX3_entry_31 : decode cX3_entry 31 = .ok (.getfield 42, 3) := by decide +kernel
theorem dX3_entry_34 : decode cX3_entry 34 = .ok (.ifCond .le 7, 3) := by decide +kernel
theorem dX3_entry_37 : decode cX3_entry 37 = .ok (.iconst 0, 1) := by decide +kernel
theorem dX3_entry_38 : decode cX3_entry 38 = .ok (.goto 22, 3) := by decide +kernel
theorem dX3_entry_41 : decode cX3_entry 41 = .ok (.iload_n 2, 1) := by decide +kernel
theorem dX3_entry_42 : decode cX3_entry 42 = .ok (.ifCond .ne 12, 3) := by decide +kernel
theorem dX3_entry_45 : decode cX3_entry 45 = .ok (.aload_n 0, 1) := by decide +kernel
theorem dX3_entry_46 : decode cX3_entry 46 = .ok (.getfield 29, 3) := by decide +kernel
theorem dX3_entry_49 : decode cX3_entry 49 = .ok (.iload_n 1, 1) := by decide +kernel
theorem dX3_entry_50 : decode cX3_entry 50 = .ok (.iaload, 1) := by decide +kernel
theorem dX3_entry_51 : decode cX3_entry 51 = .ok (.goto 9, 3) := by decide +kernel
theorem dX3_entry_54 : decode cX3_entry 54 = .ok (.aload_n 0, 1) := by decide +kernel
theorem dX3_entry_55 : decode cX3_entry 55 = .ok (.getfield 32, 3) := by decide +kernel
theorem dX3_entry_58 : decode cX3_entry 58 = .ok (.iload_n 1, 1) := by decide +kernel
theorem dX3_entry_59 : decode cX3_entry 59 = .ok (.iaload, 1) := by decide +kernel
theorem dX3_entry_60 : decode cX3_entry 60 = .ok (.ireturn, 1) := by decide +kernel
set_option maxRecDepth 20000 in
theorem ggX3_count_X3_other : GoodIn wsX3_count wsX3_other := goodIn_r _ [18, 2, 19, 20, 21, 22, 23, 24, 25, 26, 27, 28, 29, 30, 31, 32, 33, 34, 35, 36, 37, 38, 39, 40] (by decide +kernel) (by decide +kernel)
set_option maxRecDepth 20000 in
theorem gX3_count_X3_other : GoodIn wsX3_count (wsV RX3 52 RX3 yX3_other wsX3_other) := goodIn_app (goodIn_of _ (by decide +kernel)) ggX3_count_X3_other
theorem dX3_count_0 : decode cX3_count 0 = .ok (.aload_n 0, 1) := by decide +kernel
theorem dX3_count_1 : decode cX3_count 1 = .ok (.iconst 0, 1) := by decide +kernel
theorem dX3_count_2 : decode cX3_count 2 = .ok (.putfield 42, 3) := by decide +kernel
theorem dX3_count_5 : decode cX3_count 5 = .ok (.iload_n 1, 1) := by decide +kernel
theorem dX3_count_6 : decode cX3_count 6 = .ok (.tableswitch 149 0 12 #[66, 71, 84, 94, 104, 109, 114, 119, 124, 129, 134, 139, 144], 66) := by decide +kernel
theorem dX3_count_72 : decode cX3_count 72 = .ok (.aload_n 0, 1) := by decide +kernel
theorem dX3_count_73 : decode cX3_count 73 = .ok (.getfield 45, 3) := by decide +kernel
theorem dX3_count_76 : decode cX3_count 76 = .ok (.ireturn, 1) := by decide +kernel
theorem dX3_count_77 : decode cX3_count 77 = .ok (.aload_n 0, 1) := by decide +kernel
theorem dX3_count_78 : decode cX3_count 78 = .ok (.getfield 69, 3) := by decide +kernel
theorem dX3_count_81 : decode cX3_count 81 = .ok (.ifCond .eq 7, 3) := by decide +kernel
theorem dX3_count_84 : decode cX3_count 84 = .ok (.iconst 1, 1) := by decide +kernel
theorem dX3_count_85 : decode cX3_count 85 = .ok (.goto 4, 3) := by decide +kernel
theorem dX3_count_88 : decode cX3_count 88 = .ok (.iconst 0, 1) := by decide +kernel
theorem dX3_count_89 : decode cX3_count 89 = .ok (.ireturn, 1) := by decide +kernel
theorem dX3_count_90 : decode cX3_count 90 = .ok (.aload_n 0, 1) := by decide +kernel
theorem dX3_count_91 : decode cX3_count 91 = .ok (.getfield 19, 3) := by decide +kernel
theorem dX3_count_94 : decode cX3_count 94 = .ok (.aload_n 0, 1) := by decide +kernel
theorem dX3_count_95 : decode cX3_count 95 = .ok (.getfield 45, 3) := by decide +kernel
theorem dX3_count_98 : decode cX3_count 98 = .ok (.iaload, 1) := by decide +kernel
theorem dX3_count_99 : decode cX3_count 99 = .ok (.ireturn, 1) := by decide +kernel
theorem dX3_count_100 : decode cX3_count 100 = .ok (.aload_n 0, 1) := by decide +kernel
theorem dX3_count_101 : decode cX3_count 101 = .ok (.getfield 19, 3) := by decide +kernel
theorem dX3_count_104 : decode cX3_count 104 = .ok (.aload_n 0, 1) := by decide +kernel
theorem dX3_count_105 : decode cX3_count 105 = .ok (.invokevirtual 52, 3) := by decide +kernel
theorem dX3_count_108 : decode cX3_count 108 = .ok (.iaload, 1) := by decide +kernel
theorem dX3_count_109 : decode cX3_count 109 = .ok (.ireturn, 1) := by decide +kernel
theorem dX3_count_110 : decode cX3_count 110 = .ok (.aload_n 0, 1) := by decide +kernel
theorem dX3_count_111 : decode cX3_count 111 = .ok (.getfield 66, 3) := by decide +kernel
theorem dX3_count_114 : decode cX3_count 114 = .ok (.ireturn, 1) := by decide +kernel
theorem dX3_count_115 : decode cX3_count 115 = .ok (.aload_n 0, 1) := by decide +kernel
theorem dX3_count_116 : decode cX3_count 116 = .ok (.getfield 73, 3) := by decide +kernel
theorem dX3_count_119 : decode cX3_count 119 = .ok (.ireturn, 1) := by decide +kernel
theorem dX3_count_120 : decode cX3_count 120 = .ok (.aload_n 0, 1) := by decide +kernel
theorem dX3_count_121 : decode cX3_count 121 = .ok (.getfield 60, 3) := by decide +kernel
theorem dX3_count_124 : decode cX3_count 124 = .ok (.ireturn, 1) := by decide +kernel
theorem dX3_count_125 : decode cX3_count 125 = .ok (.aload_n 0, 1) := by decide +kernel
theorem dX3_count_126 : decode cX3_count 126 = .ok (.getfield 76, 3) := by decide +kernel
theorem dX3_count_129 : decode cX3_count 129 = .ok (.ireturn, 1) := by decide +kernel
theorem dX3_count_130 : decode cX3_count 130 = .ok (.aload_n 0, 1) := by decide +kernel
theorem dX3_count_131 : decode cX3_count 131 = .ok (.getfield 103, 3) := by decide +kernel
theorem dX3_count_134 : decode cX3_count 134 = .ok (.ireturn, 1) := by decide +kernel
theorem dX3_count_135 : decode cX3_count 135 = .ok (.aload_n 0, 1) := by decide +kernel
theorem dX3_count_136 : decode cX3_count 136 = .ok (.getfield 91, 3) := by decide +kernel
theorem dX3_count_139 : decode cX3_count 139 = .ok (.ireturn, 1) := by decide +kernel
theorem dX3_count_140 : decode cX3_count 140 = .ok (.aload_n 0, 1) := by decide +kernel
theorem dX3_count_141 : decode cX3_count 141 = .ok (.getfield 100, 3) := by decide +kernel
theorem dX3_count_144 : decode cX3_count 144 = .ok (.ireturn, 1) := by decide +kernel
theorem dX3_count_145 : decode cX3_count 145 = .ok (.aload_n 0, 1) := by decide +kernel
theorem dX3_count_146 : decode cX3_count 146 = .ok (.getfield 124, 3) := by decide +kernel
theorem dX3_count_149 : decode cX3_count 149 = .ok (.ireturn, 1) := by decide +kernel
theorem dX3_count_150 : decode cX3_count 150 = .ok (.aload_n 0, 1) := by decide +kernel
theorem dX3_count_151 : decode cX3_count 151 = .ok (.getfield 35, 3) := by decide +kernel
theorem dX3_count_154 : decode cX3_count 154 = .ok (.ireturn, 1) := by decide +kernel
theorem dX3_count_155 : decode cX3_count 155 = .ok (.iconst (-1), 1) := by decide +kernel
theorem dX3_count_156 : decode cX3_count 156 = .ok (.ireturn, 1) := by decide +kernel
end
section
theorem dJ9_max_7cf53_0 : decode cJ9_max_7cf53 0 = .ok (.iload_n 0, 1) := by decide +kernel
theorem dJ9_max_7cf53_1 : decode cJ9_max_7cf53 1 = .ok (.iload_n 1, 1) := by decide +kernel
theorem dJ9_max_7cf53_2 : decode cJ9_max_7cf53 2 = .ok (.if_icmp .lt 7, 3) := by decide +kernel
theorem dJ9_max_7cf53_5 : decode cJ9_max_7cf53 5 = .ok (.iload_n 0, 1) := by decide +kernel
theorem dJ9_max_7cf53_6 : decode cJ9_max_7cf53 6 = .ok (.goto 4, 3) := by decide +kernel
theorem dJ9_max_7cf53_9 : decode cJ9_max_7cf53 9 = .ok (.iload_n 1, 1) := by decide +kernel
theorem dJ9_max_7cf53_10 : decode cJ9_max_7cf53 10 = .ok (.ireturn, 1) := by decide +kernel
theorem dL_cell_0 : decode cL_cell 0 = .ok (.iload_n 1, 1) := by decide +kernel
theorem dL_cell_1 : decode cL_cell 1 = .ok (.aload_n 0, 1) := by decide +kernel
theorem dL_cell_2 : decode cL_cell 2 = .ok (.arraylength, 1) := by decide +kernel
theorem dL_cell_3 : decode cL_cell 3 = .ok (.if_icmp .ge 9, 3) := by decide +kernel
theorem dL_cell_6 : decode cL_cell 6 = .ok (.aload_n 0, 1) := by decide +kernel
theorem dL_cell_7 : decode cL_cell 7 = .ok (.iload_n 1, 1) := by decide +kernel
theorem dL_cell_8 : decode cL_cell 8 = .ok (.iaload, 1) := by decide +kernel
theorem dL_cell_9 : decode cL_cell 9 = .ok (.goto 4, 3) := by decide +kernel
theorem dL_cell_12 : decode cL_cell 12 = .ok (.iconst 0, 1) := by decide +kernel
theorem dL_cell_13 : decode cL_cell 13 = .ok (.ireturn, 1) := by decide +kernel
set_option maxRecDepth 20000 in
theorem ggL_alloc_X2_alloc : GoodIn wsL_alloc wsX2_alloc := goodIn_ca (goodIn_r _ [6, 7, 8, 9, 10, 11, 12, 13, 14, 15, 16, 5, 17, 18, 19, 20, 21, 22, 23, 24, 25, 26, 27, 28, 29, 30, 31, 32, 33, 34, 35, 36, 37, 38, 39, 40, 41, 42, 43, 44, 45, 46, 47, 48, 49, 50, 51, 52, 53, 54, 55, 56, 57, 58, 59, 60, 61, 62, 63, 64, 65, 66, 67, 68, 69, 70, 71, 72, 73, 74, 75, 76, 77, 78, 79, 80, 81, 82, 83, 84, 85, 86, 87, 88, 89, 90, 91, 92, 93, 94, 95, 96, 97, 98, 99, 100, 101, 102, 103, 104, 105, 106, 107, 108, 109, 110, 111, 112] (by decide +kernel) (by decide +kernel)) (goodIn_sub (fun _ h => List.mem_cons_of_mem _ (List.mem_append_right _ h)) (by decide +kernel))
set_option maxRecDepth 20000 in
theorem gL_alloc_X2_alloc : GoodIn wsL_alloc (wsV RL 7 RX2 yX2_alloc wsX2_alloc) := goodIn_app (goodIn_of _ (by decide +kernel)) ggL_alloc_X2_alloc
theorem dL_alloc_0 : decode cL_alloc 0 = .ok (.aload_n 3, 1) := by decide +kernel
theorem dL_alloc_1 : decode cL_alloc 1 = .ok (.iconst 0, 1) := by decide +kernel
theorem dL_alloc_2 : decode cL_alloc 2 = .ok (.aload_n 0, 1) := by decide +kernel
theorem dL_alloc_3 : decode cL_alloc 3 = .ok (.iload_n 1, 1) := by decide +kernel
theorem dL_alloc_4 : decode cL_alloc 4 = .ok (.iload_n 2, 1) := by decide +kernel
theorem dL_alloc_5 : decode cL_alloc 5 = .ok (.invokevirtual 7, 3) := by decide +kernel
theorem dL_alloc_8 : decode cL_alloc 8 = .ok (.ifCond .eq 7, 3) := by decide +kernel
theorem dL_alloc_11 : decode cL_alloc 11 = .ok (.lconst 1, 1) := by decide +kernel
theorem dL_alloc_12 : decode cL_alloc 12 = .ok (.goto 4, 3) := by decide +kernel
theorem dL_alloc_15 : decode cL_alloc 15 = .ok (.lconst 0, 1) := by decide +kernel
theorem dL_alloc_16 : decode cL_alloc 16 = .ok (.lastore, 1) := by decide +kernel
theorem dL_alloc_17 : decode cL_alloc 17 = .ok (.goto 7, 3) := by decide +kernel
theorem dL_alloc_20 : decode cL_alloc 20 = .ok (.astore 4, 2) := by decide +kernel
theorem dL_alloc_22 : decode cL_alloc 22 = .ok (.iconst 1, 1) := by decide +kernel
theorem dL_alloc_23 : decode cL_alloc 23 = .ok (.ireturn, 1) := by decide +kernel
theorem dL_alloc_24 : decode cL_alloc 24 = .ok (.iconst 0, 1) := by decide +kernel
theorem dL_alloc_25 : decode cL_alloc 25 = .ok (.ireturn, 1) := by decide +kernel
set_option maxRecDepth 20000 in
theorem ggL_put_X2_put : GoodIn wsL_put wsX2_put := goodIn_ca (goodIn_ca (goodIn_r _ [7, 8, 9, 10, 11, 12, 13, 14, 15, 16, 6, 17, 18, 19, 20, 21, 22, 23, 24, 25, 26, 27, 28, 29, 30, 31, 32, 33, 34, 35, 36, 37, 38, 39, 40, 41, 42, 43, 44, 45, 46, 47, 48, 49, 50, 51, 52, 53, 54, 55, 56, 57, 58, 59, 60, 61, 62, 63, 64, 65, 66, 67, 68, 69, 70, 71, 72, 73, 74, 75, 76, 77, 78, 79, 80, 81, 82, 83, 84, 85, 86, 87, 88, 89, 90, 91, 92, 93, 94, 95, 96, 97, 98, 99, 100, 101, 102, 103, 104, 105, 106, 107, 108, 109] (by decide +kernel) (by decide +kernel)) (goodIn_sub (fun _ h => List.mem_cons_of_mem _ (List.mem_append_left _ (List.mem_append_right _ h))) (by decide +kernel))) (goodIn_sub (fun _ h => List.mem_cons_of_mem _ (List.mem_append_right _ h)) (by decide +kernel))
set_option maxRecDepth 20000 in
theorem gL_put_X2_put : GoodIn wsL_put (wsV RL 15 RX2 yX2_put wsX2_put) := goodIn_app (goodIn_of _ (by decide +kernel)) ggL_put_X2_put
theorem dL_put_0 : decode cL_put 0 = .ok (.aload_n 0, 1) := by decide +kernel
theorem dL_put_1 : decode cL_put 1 = .ok (.iload_n 1, 1) := by decide +kernel
theorem dL_put_2 : decode cL_put 2 = .ok (.iload_n 2, 1) := by decide +kernel
theorem dL_put_3 : decode cL_put 3 = .ok (.iload_n 3, 1) := by decide +kernel
theorem dL_put_4 : decode cL_put 4 = .ok (.invokevirtual 15, 3) := by decide +kernel
theorem dL_put_7 : decode cL_put 7 = .ok (.goto 11, 3) := by decide +kernel
theorem dL_put_10 : decode cL_put 10 = .ok (.astore 4, 2) := by decide +kernel
theorem dL_put_12 : decode cL_put 12 = .ok (.iconst 1, 1) := by decide +kernel
theorem dL_put_13 : decode cL_put 13 = .ok (.ireturn, 1) := by decide +kernel
theorem dL_put_14 : decode cL_put 14 = .ok (.astore 4, 2) := by decide +kernel
theorem dL_put_16 : decode cL_put 16 = .ok (.iconst 2, 1) := by decide +kernel
theorem dL_put_17 : decode cL_put 17 = .ok (.ireturn, 1) := by decide +kernel
theorem dL_put_18 : decode cL_put 18 = .ok (.iconst 0, 1) := by decide +kernel
theorem dL_put_19 : decode cL_put 19 = .ok (.ireturn, 1) := by decide +kernel
set_option maxRecDepth 20000 in
theorem ggL_putNumber_X2_putNumber : GoodIn wsL_putNumber wsX2_putNumber := goodIn_ca (goodIn_ca (goodIn_r _ [7, 8, 9, 10, 11, 12, 13, 14, 6, 15, 16, 17, 18, 19, 20, 21, 22, 23, 24, 25, 26, 27, 28, 29, 30, 31, 32, 33, 34, 35, 36, 37, 38, 39, 40, 41, 42, 43, 44, 45, 46, 47, 48, 49, 50, 51, 52, 53, 54, 55, 56, 57, 58, 59, 60, 61, 62, 63, 64, 65, 66, 67, 68, 69, 70, 71, 72, 73, 74, 75, 76, 77, 78, 79, 80, 81, 82, 83, 84, 85, 86, 87, 88, 89, 90, 91, 92, 93, 94, 95, 96, 97, 98, 99, 100, 101, 102, 103, 104, 105, 106, 107, 108, 109] (by decide +kernel) (by decide +kernel)) (goodIn_sub (fun _ h => List.mem_cons_of_mem _ (List.mem_append_left _ (List.mem_append_right _ h))) (by decide +kernel))) (goodIn_sub (fun _ h => List.mem_cons_of_mem _ (List.mem_append_right _ h)) (by decide +kernel))
set_option maxRecDepth 20000 in
theorem gL_putNumber_X2_putNumber : GoodIn wsL_putNumber (wsV RL 21 RX2 yX2_putNumber wsX2_putNumber) := goodIn_app (goodIn_of _ (by decide +kernel)) ggL_putNumber_X2_putNumber
theorem dL_putNumber_0 : decode cL_putNumber 0 = .ok (.aload_n 0, 1) := by decide +kernel
theorem dL_putNumber_1 : decode cL_putNumber 1 = .ok (.iload_n 1, 1) := by decide +kernel
theorem dL_putNumber_2 : decode cL_putNumber 2 = .ok (.iload_n 2, 1) := by decide +kernel
theorem dL_putNumber_3 : decode cL_putNumber 3 = .ok (.iload_n 3, 1) := by decide +kernel
theorem dL_putNumber_4 : decode cL_putNumber 4 = .ok (.invokevirtual 21, 3) := by decide +kernel
theorem dL_putNumber_7 : decode cL_putNumber 7 = .ok (.goto 11, 3) := by decide +kernel
theorem dL_putNumber_10 : decode cL_putNumber 10 = .ok (.astore 4, 2) := by decide +kernel
theorem dL_putNumber_12 : decode cL_putNumber 12 = .ok (.iconst 1, 1) := by decide +kernel
theorem dL_putNumber_13 : decode cL_putNumber 13 = .ok (.ireturn, 1) := by decide +kernel
theorem dL_putNumber_14 : decode cL_putNumber 14 = .ok (.astore 4, 2) := by decide +kernel
theorem dL_putNumber_16 : decode cL_putNumber 16 = .ok (.iconst 2, 1) := by decide +kernel
theorem dL_putNumber_17 : decode cL_putNumber 17 = .ok (.ireturn, 1) := by decide +kernel
theorem dL_putNumber_18 : decode cL_putNumber 18 = .ok (.iconst 0, 1) := by decide +kernel
theorem dL_putNumber_19 : decode cL_putNumber 19 = .ok (.ireturn, 1) := by decide +kernel
set_option maxRecDepth 20000 in
theorem ggL_get_X2_get : GoodIn wsL_get wsX2_get := goodIn_ca (goodIn_ca (goodIn_r _ [7, 8, 9, 10, 11, 12, 13, 14, 15, 6, 16, 17, 18, 19, 20, 21, 22, 23, 24, 25, 26, 27, 28, 29, 30, 31, 32, 33, 34, 35, 36, 37, 38, 39, 40, 41, 42, 43, 44, 45] (by decide +kernel) (by decide +kernel)) (goodIn_sub (fun _ h => List.mem_cons_of_mem _ (List.mem_append_left _ (List.mem_append_right _ h))) (by decide +kernel))) (goodIn_sub (fun _ h => List.mem_cons_of_mem _ (List.mem_append_right _ h)) (by decide +kernel))
set_option maxRecDepth 20000 in
theorem gL_get_X2_get : GoodIn wsL_get (wsV RL 24 RX2 yX2_get wsX2_get) := goodIn_app (goodIn_of _ (by decide +kernel)) ggL_get_X2_get
theorem dL_get_0 : decode cL_get 0 = .ok (.aload_n 0, 1) := by decide +kernel
theorem dL_get_1 : decode cL_get 1 = .ok (.iload_n 1, 1) := by decide +kernel
theorem dL_get_2 : decode cL_get 2 = .ok (.iload_n 2, 1) := by decide +kernel
theorem dL_get_3 : decode cL_get 3 = .ok (.iload_n 3, 1) := by decide +kernel
theorem dL_get_4 : decode cL_get 4 = .ok (.invokevirtual 24, 3) := by decide +kernel
theorem dL_get_7 : decode cL_get 7 = .ok (.goto 11, 3) := by decide +kernel
theorem dL_get_10 : decode cL_get 10 = .ok (.astore 4, 2) := by decide +kernel
theorem dL_get_12 : decode cL_get 12 = .ok (.iconst 1, 1) := by decide +kernel
theorem dL_get_13 : decode cL_get 13 = .ok (.ireturn, 1) := by decide +kernel
theorem dL_get_14 : decode cL_get 14 = .ok (.astore 4, 2) := by decide +kernel
theorem dL_get_16 : decode cL_get 16 = .ok (.iconst 2, 1) := by decide +kernel
theorem dL_get_17 : decode cL_get 17 = .ok (.ireturn, 1) := by decide +kernel
theorem dL_get_18 : decode cL_get 18 = .ok (.iconst 0, 1) := by decide +kernel
theorem dL_get_19 : decode cL_get 19 = .ok (.ireturn, 1) := by decide +kernel
set_option maxRecDepth 20000 in
theorem ggL_collect_X2_collect : GoodIn wsL_collect wsX2_collect := goodIn_ca (goodIn_r _ [6, 7, 8, 9, 10, 11, 12, 13, 14, 5, 15, 16, 17, 18, 19, 20, 21, 22, 23, 24, 25, 26, 27, 28, 29, 30, 31, 32, 33, 34, 35, 36, 37, 38, 39, 40, 41, 42, 43, 44, 45, 46, 47, 48, 49, 50, 51, 52, 53, 54, 55, 56, 57, 58, 59, 60, 61, 62, 63, 64, 65, 66, 67, 68, 69, 70, 71, 72, 73, 74, 75, 76, 77, 78, 79, 80, 81, 82, 83, 84, 85, 86, 87, 88] (by decide +kernel) (by decide +kernel)) (goodIn_sub (fun _ h => List.mem_cons_of_mem _ (List.mem_append_right _ h)) (by decide +kernel))
set_option maxRecDepth 20000 in
theorem gL_collect_X2_collect : GoodIn wsL_collect (wsV RL 27 RX2 yX2_collect wsX2_collect) := goodIn_app (goodIn_of _ (by decide +kernel)) ggL_collect_X2_collect
theorem dL_collect_0 : decode cL_collect 0 = .ok (.aload_n 2, 1) := by decide +kernel
theorem dL_collect_1 : decode cL_collect 1 = .ok (.iconst 0, 1) := by decide +kernel
theorem dL_collect_2 : decode cL_collect 2 = .ok (.aload_n 0, 1) := by decide +kernel
theorem dL_collect_3 : decode cL_collect 3 = .ok (.iload_n 1, 1) := by decide +kernel
theorem dL_collect_4 : decode cL_collect 4 = .ok (.invokevirtual 27, 3) := by decide +kernel
theorem dL_collect_7 : decode cL_collect 7 = .ok (.i2l, 1) := by decide +kernel
theorem dL_collect_8 : decode cL_collect 8 = .ok (.lastore, 1) := by decide +kernel
theorem dL_collect_9 : decode cL_collect 9 = .ok (.goto 6, 3) := by decide +kernel
theorem dL_collect_12 : decode cL_collect 12 = .ok (.astore_n 3, 1) := by decide +kernel
theorem dL_collect_13 : decode cL_collect 13 = .ok (.iconst 1, 1) := by decide +kernel
theorem dL_collect_14 : decode cL_collect 14 = .ok (.ireturn, 1) := by decide +kernel
theorem dL_collect_15 : decode cL_collect 15 = .ok (.iconst 0, 1) := by decide +kernel
theorem dL_collect_16 : decode cL_collect 16 = .ok (.ireturn, 1) := by decide +kernel
set_option maxRecDepth 20000 in
theorem ggL_look_X2_look : GoodIn wsL_look wsX2_look := goodIn_ca (goodIn_r _ [6, 7, 8, 9, 10, 11, 12, 13, 5, 14, 15, 16, 17, 18, 19, 20, 21, 22, 23, 24, 25, 26, 27, 28, 29, 30, 31, 32, 33, 34] (by decide +kernel) (by decide +kernel)) (goodIn_sub (fun _ h => List.mem_cons_of_mem _ (List.mem_append_right _ h)) (by decide +kernel))
set_option maxRecDepth 20000 in
theorem gL_look_X2_look : GoodIn wsL_look (wsV RL 31 RX2 yX2_look wsX2_look) := goodIn_app (goodIn_of _ (by decide +kernel)) ggL_look_X2_look
theorem dL_look_0 : decode cL_look 0 = .ok (.aload_n 3, 1) := by decide +kernel
theorem dL_look_1 : decode cL_look 1 = .ok (.iconst 0, 1) := by decide +kernel
theorem dL_look_2 : decode cL_look 2 = .ok (.aload_n 0, 1) := by decide +kernel
theorem dL_look_3 : decode cL_look 3 = .ok (.iload_n 1, 1) := by decide +kernel
theorem dL_look_4 : decode cL_look 4 = .ok (.iload_n 2, 1) := by decide +kernel
theorem dL_look_5 : decode cL_look 5 = .ok (.invokevirtual 31, 3) := by decide +kernel
theorem dL_look_8 : decode cL_look 8 = .ok (.i2l, 1) := by decide +kernel
theorem dL_look_9 : decode cL_look 9 = .ok (.lastore, 1) := by decide +kernel
theorem dL_look_10 : decode cL_look 10 = .ok (.goto 7, 3) := by decide +kernel
theorem dL_look_13 : decode cL_look 13 = .ok (.astore 4, 2) := by decide +kernel
theorem dL_look_15 : decode cL_look 15 = .ok (.iconst 1, 1) := by decide +kernel
theorem dL_look_16 : decode cL_look 16 = .ok (.ireturn, 1) := by decide +kernel
theorem dL_look_17 : decode cL_look 17 = .ok (.iconst 0, 1) := by decide +kernel
theorem dL_look_18 : decode cL_look 18 = .ok (.ireturn, 1) := by decide +kernel
set_option maxRecDepth 20000 in
theorem ggL_field_X2_field : GoodIn wsL_field wsX2_field := goodIn_ca (goodIn_r _ [6, 7, 8, 9, 10, 11, 12, 5, 13, 14, 15, 16, 17, 18, 19, 20, 21, 22, 23, 24, 25, 26, 27, 28, 29, 30, 31, 32, 33, 34, 35, 36, 37, 38] (by decide +kernel) (by decide +kernel)) (goodIn_sub (fun _ h => List.mem_cons_of_mem _ (List.mem_append_right _ h)) (by decide +kernel))
set_option maxRecDepth 20000 in
theorem gL_field_X2_field : GoodIn wsL_field (wsV RL 37 RX2 yX2_field wsX2_field) := goodIn_app (goodIn_of _ (by decide +kernel)) ggL_field_X2_field
theorem dL_field_0 : decode cL_field 0 = .ok (.aload 4, 2) := by decide +kernel
theorem dL_field_2 : decode cL_field 2 = .ok (.iconst 0, 1) := by decide +kernel
theorem dL_field_3 : decode cL_field 3 = .ok (.aload_n 0, 1) := by decide +kernel
theorem dL_field_4 : decode cL_field 4 = .ok (.iload_n 1, 1) := by decide +kernel
theorem dL_field_5 : decode cL_field 5 = .ok (.iload_n 2, 1) := by decide +kernel
theorem dL_field_6 : decode cL_field 6 = .ok (.iload_n 3, 1) := by decide +kernel
theorem dL_field_7 : decode cL_field 7 = .ok (.invokevirtual 37, 3) := by decide +kernel
theorem dL_field_10 : decode cL_field 10 = .ok (.i2l, 1) := by decide +kernel
theorem dL_field_11 : decode cL_field 11 = .ok (.lastore, 1) := by decide +kernel
theorem dL_field_12 : decode cL_field 12 = .ok (.goto 7, 3) := by decide +kernel
theorem dL_field_15 : decode cL_field 15 = .ok (.astore 5, 2) := by decide +kernel
theorem dL_field_17 : decode cL_field 17 = .ok (.iconst 1, 1) := by decide +kernel
theorem dL_field_18 : decode cL_field 18 = .ok (.ireturn, 1) := by decide +kernel
theorem dL_field_19 : decode cL_field 19 = .ok (.iconst 0, 1) := by decide +kernel
theorem dL_field_20 : decode cL_field 20 = .ok (.ireturn, 1) := by decide +kernel
set_option maxRecDepth 20000 in
theorem ggL_cell__X2_cell : GoodIn wsL_cell_ wsX2_cell := goodIn_ca (goodIn_r _ [6, 7, 8, 9, 10, 11, 12, 13, 14, 15, 16, 17, 18, 19, 20, 21, 22, 23, 24, 25, 26, 27, 28, 29, 30] (by decide +kernel) (by decide +kernel)) (goodIn_sub (fun _ h => List.mem_cons_of_mem _ (List.mem_append_right _ h)) (by decide +kernel))
set_option maxRecDepth 20000 in
theorem gL_cell__X2_cell : GoodIn wsL_cell_ (wsV RL 41 RX2 yX2_cell wsX2_cell) := goodIn_app (goodIn_of _ (by decide +kernel)) ggL_cell__X2_cell
theorem dL_cell__0 : decode cL_cell_ 0 = .ok (.aload 4, 2) := by decide +kernel
theorem dL_cell__2 : decode cL_cell_ 2 = .ok (.iconst 0, 1) := by decide +kernel
theorem dL_cell__3 : decode cL_cell_ 3 = .ok (.aload_n 0, 1) := by decide +kernel
theorem dL_cell__4 : decode cL_cell_ 4 = .ok (.iload_n 1, 1) := by decide +kernel
theorem dL_cell__5 : decode cL_cell_ 5 = .ok (.iload_n 2, 1) := by decide +kernel
theorem dL_cell__6 : decode cL_cell_ 6 = .ok (.iload_n 3, 1) := by decide +kernel
theorem dL_cell__7 : decode cL_cell_ 7 = .ok (.invokevirtual 41, 3) := by decide +kernel
theorem dL_cell__10 : decode cL_cell_ 10 = .ok (.i2l, 1) := by decide +kernel
theorem dL_cell__11 : decode cL_cell_ 11 = .ok (.lastore, 1) := by decide +kernel
theorem dL_cell__12 : decode cL_cell_ 12 = .ok (.goto 7, 3) := by decide +kernel
theorem dL_cell__15 : decode cL_cell_ 15 = .ok (.astore 5, 2) := by decide +kernel
theorem dL_cell__17 : decode cL_cell_ 17 = .ok (.iconst 1, 1) := by decide +kernel
theorem dL_cell__18 : decode cL_cell_ 18 = .ok (.ireturn, 1) := by decide +kernel
theorem dL_cell__19 : decode cL_cell_ 19 = .ok (.iconst 0, 1) := by decide +kernel
theorem dL_cell__20 : decode cL_cell_ 20 = .ok (.ireturn, 1) := by decide +kernel
set_option maxRecDepth 20000 in
theorem ggL_entry_X2_entry : GoodIn wsL_entry wsX2_entry := goodIn_ca (goodIn_r _ [6, 7, 8, 9, 10, 11, 12, 13, 14, 15, 16, 17, 18, 19, 20, 21, 22, 23, 24, 25, 26, 27, 28] (by decide +kernel) (by decide +kernel)) (goodIn_sub (fun _ h => List.mem_cons_of_mem _ (List.mem_append_right _ h)) (by decide +kernel))
set_option maxRecDepth 20000 in
theorem gL_entry_X2_entry : GoodIn wsL_entry (wsV RL 44 RX2 yX2_entry wsX2_entry) := goodIn_app (goodIn_of _ (by decide +kernel)) ggL_entry_X2_entry
theorem dL_entry_0 : decode cL_entry 0 = .ok (.aload_n 3, 1) := by decide +kernel
theorem dL_entry_1 : decode cL_entry 1 = .ok (.iconst 0, 1) := by decide +kernel
theorem dL_entry_2 : decode cL_entry 2 = .ok (.aload_n 0, 1) := by decide +kernel
theorem dL_entry_3 : decode cL_entry 3 = .ok (.iload_n 1, 1) := by decide +kernel
theorem dL_entry_4 : decode cL_entry 4 = .ok (.iload_n 2, 1) := by decide +kernel
theorem dL_entry_5 : decode cL_entry 5 = .ok (.invokevirtual 44, 3) := by decide +kernel
theorem dL_entry_8 : decode cL_entry 8 = .ok (.i2l, 1) := by decide +kernel
theorem dL_entry_9 : decode cL_entry 9 = .ok (.lastore, 1) := by decide +kernel
theorem dL_entry_10 : decode cL_entry 10 = .ok (.goto 7, 3) := by decide +kernel
theorem dL_entry_13 : decode cL_entry 13 = .ok (.astore 4, 2) := by decide +kernel
theorem dL_entry_15 : decode cL_entry 15 = .ok (.iconst 1, 1) := by decide +kernel
theorem dL_entry_16 : decode cL_entry 16 = .ok (.ireturn, 1) := by decide +kernel
theorem dL_entry_17 : decode cL_entry 17 = .ok (.iconst 0, 1) := by decide +kernel
theorem dL_entry_18 : decode cL_entry 18 = .ok (.ireturn, 1) := by decide +kernel
set_option maxRecDepth 20000 in
theorem ggL_law_L_cell : GoodIn wsL_law wsL_cell := goodIn_r _ [10] (by decide +kernel) (by decide +kernel)
set_option maxRecDepth 20000 in
theorem gL_law_L_cell : GoodIn wsL_law (va_wsS RL 47 yL_cell wsL_cell) := goodIn_app (goodIn_of _ (by decide +kernel)) ggL_law_L_cell
set_option maxRecDepth 20000 in
theorem ggL_law_X2_init : GoodIn wsL_law wsX2_init := goodIn_r _ [13, 14, 15, 16, 17, 18, 19, 20, 21, 22, 23, 24, 25, 26, 27, 28, 29, 30, 31, 32, 33, 34, 35, 36, 37, 38, 39, 40, 41, 42, 43, 356, 357, 358, 359, 360, 361, 362, 363, 364, 365, 366, 367, 368, 369, 370, 393, 394, 395, 396, 397, 398, 399, 400, 401] (by decide +kernel) (by decide +kernel)
set_option maxRecDepth 20000 in
theorem gL_law_X2_init : GoodIn wsL_law (wsX2_init) := ggL_law_X2_init
set_option maxRecDepth 20000 in
theorem ggL_law_X3_init : GoodIn wsL_law wsX3_init := goodIn_r _ [46, 47, 15, 16, 19, 48, 49, 50, 51, 17, 52, 53, 54, 55, 56, 57, 371, 372, 373, 374, 375, 376, 377, 378, 379, 380, 381, 382, 383, 384, 385, 386, 387, 388, 389, 390, 391, 392] (by decide +kernel) (by decide +kernel)
set_option maxRecDepth 20000 in
theorem gL_law_X3_init : GoodIn wsL_law (wsX3_init) := ggL_law_X3_init
set_option maxRecDepth 20000 in
theorem ggL_law_L_alloc : GoodIn wsL_law wsL_alloc := goodIn_ca (goodIn_r _ [60, 61, 62, 63, 64, 2, 65, 66, 67, 68, 30, 69, 70, 26, 25, 71, 72, 73, 74, 75, 76, 77, 78, 79, 80, 29, 81, 82, 83, 41, 84, 85, 86, 87, 88, 89, 90, 91, 92, 93, 94, 95, 96, 97, 24, 98, 31, 20, 99, 100, 101, 102, 103, 104, 105, 42, 106, 107, 108, 109, 110, 111, 112, 113, 114, 115, 116, 117, 18, 118, 119, 120, 121, 122, 123, 23, 124, 125, 126, 127, 128, 129, 130, 43, 131, 132, 133, 134, 135, 356, 357, 358, 359, 360, 361, 362, 363, 364, 365, 366, 367, 368, 369, 370, 397, 398, 399, 400, 401, 393, 394, 395, 396] (by decide +kernel) (by decide +kernel)) (goodIn_sub (fun _ h => List.mem_append_left _ (List.mem_append_left _ (List.mem_append_right _ h))) (by decide +kernel))
set_option maxRecDepth 20000 in
theorem gL_law_L_alloc : GoodIn wsL_law (va_wsS RL 58 yL_alloc wsL_alloc) := goodIn_app (goodIn_of _ (by decide +kernel)) ggL_law_L_alloc
set_option maxRecDepth 20000 in
theorem ggL_law_X3_alloc : GoodIn wsL_law wsX3_alloc := goodIn_r _ [139, 140, 141, 51, 142, 48, 49, 50, 143, 52, 53, 57, 56, 144, 145, 5, 146, 147, 148, 149, 150, 151, 152, 153, 154, 155, 156, 157, 158, 159, 160, 161, 162, 163, 164, 165, 166, 167, 168, 169, 170, 171, 172, 173, 174, 175, 176, 177, 178, 179, 180, 181, 182, 183, 184, 54, 55, 185, 186, 187, 188, 189, 190, 191, 192, 193, 194, 195, 196, 197, 198, 199, 200, 201, 202, 203, 204, 205, 206, 207, 208, 209, 210, 211, 212, 213, 371, 372, 373, 374, 375, 376, 377, 378, 379, 380, 381, 382, 383, 384, 385, 386, 387, 388, 389, 390, 391, 392] (by decide +kernel) (by decide +kernel)
set_option maxRecDepth 20000 in
theorem gL_law_X3_alloc : GoodIn wsL_law (wsV RL 61 RX3 yX3_alloc wsX3_alloc) := goodIn_app (goodIn_of _ (by decide +kernel)) ggL_law_X3_alloc
set_option maxRecDepth 20000 in
theorem ggL_law_X3_thrown : GoodIn wsL_law wsX3_thrown := goodIn_r _ [217, 140, 371, 372, 373, 374, 375, 376, 377, 378, 379, 380, 381, 382, 383, 384, 385, 386, 387, 388, 389, 390, 391, 392] (by decide +kernel) (by decide +kernel)
set_option maxRecDepth 20000 in
theorem gL_law_X3_thrown : GoodIn wsL_law (wsV RL 62 RX3 yX3_thrown wsX3_thrown) := goodIn_app (goodIn_of _ (by decide +kernel)) ggL_law_X3_thrown
set_option maxRecDepth 20000 in
theorem ggL_law_L_put : GoodIn wsL_law wsL_put := goodIn_ca (goodIn_ca (goodIn_r _ [220, 61, 221, 222, 223, 224, 2, 225, 66, 67, 226, 227, 18, 30, 20, 71, 72, 73, 228, 229, 230, 231, 232, 233, 234, 235, 70, 68, 24, 26, 103, 29, 104, 105, 41, 42, 236, 23, 237, 238, 126, 35, 36, 239, 123, 124, 125, 127, 84, 85, 86, 87, 79, 88, 89, 90, 91, 92, 93, 94, 95, 96, 97, 98, 31, 99, 100, 101, 102, 106, 107, 108, 109, 110, 111, 112, 113, 114, 115, 116, 117, 118, 119, 120, 121, 122, 356, 357, 358, 359, 360, 361, 362, 363, 364, 365, 366, 367, 368, 369, 370, 397, 398, 399, 400, 401, 393, 394, 395, 396] (by decide +kernel) (by decide +kernel)) (goodIn_sub (fun _ h => List.mem_append_left _ (List.mem_append_left _ (List.mem_append_right _ h))) (by decide +kernel))) (goodIn_sub (fun _ h => List.mem_append_left _ (List.mem_append_right _ h)) (by decide +kernel))
set_option maxRecDepth 20000 in
theorem gL_law_L_put : GoodIn wsL_law (va_wsS RL 66 yL_put wsL_put) := goodIn_app (goodIn_of _ (by decide +kernel)) ggL_law_L_put
set_option maxRecDepth 20000 in
theorem ggL_law_X3_put : GoodIn wsL_law wsX3_put := goodIn_r _ [243, 140, 52, 142, 53, 144, 145, 5, 146, 244, 245, 246, 247, 49, 185, 186, 187, 248, 249, 250, 251, 48, 141, 54, 167, 55, 57, 147, 148, 149, 150, 151, 152, 173, 174, 175, 176, 177, 178, 179, 180, 168, 166, 51, 181, 182, 183, 184, 50, 169, 170, 171, 172, 188, 189, 190, 191, 192, 193, 194, 195, 196, 197, 198, 199, 200, 201, 202, 203, 204, 205, 206, 207, 208, 209, 210, 211, 212, 213, 371, 372, 373, 374, 375, 376, 377, 378, 379, 380, 381, 382, 383, 384, 385, 386, 387, 388, 389, 390, 391, 392] (by decide +kernel) (by decide +kernel)
set_option maxRecDepth 20000 in
theorem gL_law_X3_put : GoodIn wsL_law (wsV RL 69 RX3 yX3_put wsX3_put) := goodIn_app (goodIn_of _ (by decide +kernel)) ggL_law_X3_put
set_option maxRecDepth 20000 in
theorem ggL_law_L_putNumber : GoodIn wsL_law wsL_putNumber := goodIn_ca (goodIn_ca (goodIn_r _ [254, 61, 221, 255, 256, 257, 2, 258, 66, 67, 226, 227, 20, 71, 72, 73, 228, 229, 230, 231, 18, 30, 232, 233, 234, 235, 70, 68, 24, 26, 103, 29, 104, 105, 41, 42, 236, 23, 237, 238, 126, 35, 36, 239, 123, 124, 125, 127, 84, 85, 86, 87, 79, 88, 89, 90, 91, 92, 93, 94, 95, 96, 97, 98, 31, 99, 100, 101, 102, 106, 107, 108, 109, 110, 111, 112, 113, 114, 115, 116, 117, 118, 119, 120, 121, 122, 356, 357, 358, 359, 360, 361, 362, 363, 364, 365, 366, 367, 368, 369, 370, 397, 398, 399, 400, 401, 393, 394, 395, 396] (by decide +kernel) (by decide +kernel)) (goodIn_sub (fun _ h => List.mem_append_left _ (List.mem_append_left _ (List.mem_append_right _ h))) (by decide +kernel))) (goodIn_sub (fun _ h => List.mem_append_left _ (List.mem_append_right _ h)) (by decide +kernel))
set_option maxRecDepth 20000 in
theorem gL_law_L_putNumber : GoodIn wsL_law (va_wsS RL 70 yL_putNumber wsL_putNumber) := goodIn_app (goodIn_of _ (by decide +kernel)) ggL_law_L_putNumber
set_option maxRecDepth 20000 in
theorem ggL_law_X3_putNumber : GoodIn wsL_law wsX3_putNumber := goodIn_r _ [262, 140, 144, 145, 5, 146, 244, 245, 246, 247, 52, 49, 142, 53, 185, 186, 187, 248, 249, 250, 251, 48, 141, 54, 167, 55, 57, 147, 148, 149, 150, 151, 152, 173, 174, 175, 176, 177, 178, 179, 180, 168, 166, 51, 181, 182, 183, 184, 50, 169, 170, 171, 172, 188, 189, 190, 191, 192, 193, 194, 195, 196, 197, 198, 199, 200, 201, 202, 203, 204, 205, 206, 207, 208, 209, 210, 211, 212, 213, 371, 372, 373, 374, 375, 376, 377, 378, 379, 380, 381, 382, 383, 384, 385, 386, 387, 388, 389, 390, 391, 392] (by decide +kernel) (by decide +kernel)
set_option maxRecDepth 20000 in
theorem gL_law_X3_putNumber : GoodIn wsL_law (wsV RL 72 RX3 yX3_putNumber wsX3_putNumber) := goodIn_app (goodIn_of _ (by decide +kernel)) ggL_law_X3_putNumber
set_option maxRecDepth 20000 in
theorem ggL_law_L_get : GoodIn wsL_law wsL_get := goodIn_ca (goodIn_ca (goodIn_r _ [265, 61, 221, 266, 267, 268, 2, 269, 66, 67, 226, 227, 20, 30, 71, 72, 73, 228, 229, 230, 231, 18, 132, 133, 134, 135, 356, 357, 358, 359, 360, 361, 362, 363, 364, 365, 366, 367, 368, 369, 370, 397, 398, 399, 400, 401] (by decide +kernel) (by decide +kernel)) (goodIn_sub (fun _ h => List.mem_append_left _ (List.mem_append_left _ (List.mem_append_right _ h))) (by decide +kernel))) (goodIn_sub (fun _ h => List.mem_append_left _ (List.mem_append_right _ h)) (by decide +kernel))
set_option maxRecDepth 20000 in
theorem gL_law_L_get : GoodIn wsL_law (va_wsS RL 73 yL_get wsL_get) := goodIn_app (goodIn_of _ (by decide +kernel)) ggL_law_L_get
set_option maxRecDepth 20000 in
theorem ggL_law_X3_get : GoodIn wsL_law wsX3_get := goodIn_r _ [273, 140, 142, 53, 52, 48, 49, 144, 145, 5, 146, 244, 245, 246, 247, 185, 186, 187, 371, 372, 373, 374, 375, 376, 377, 378, 379, 380, 381, 382, 383, 384, 385, 386, 387, 388, 389, 390, 391, 392] (by decide +kernel) (by decide +kernel)
set_option maxRecDepth 20000 in
theorem gL_law_X3_get : GoodIn wsL_law (wsV RL 75 RX3 yX3_get wsX3_get) := goodIn_app (goodIn_of _ (by decide +kernel)) ggL_law_X3_get
set_option maxRecDepth 20000 in
theorem ggL_law_X2_move : GoodIn wsL_law wsX2_move := goodIn_r _ [277, 18, 20, 71, 72, 2, 73, 132, 133, 134, 135, 356, 357, 358, 359, 360, 361, 362, 363, 364, 365, 366, 367, 368, 369, 370] (by decide +kernel) (by decide +kernel)
set_option maxRecDepth 20000 in
theorem gL_law_X2_move : GoodIn wsL_law (wsV RL 76 RX2 yX2_move wsX2_move) := goodIn_app (goodIn_of _ (by decide +kernel)) ggL_law_X2_move
set_option maxRecDepth 20000 in
theorem ggL_law_X3_move : GoodIn wsL_law wsX3_move := goodIn_r _ [281, 140, 52, 53, 144, 145, 5, 146, 371, 372, 373, 374, 375, 376, 377, 378, 379, 380, 381, 382, 383, 384, 385, 386, 387, 388, 389, 390, 391, 392] (by decide +kernel) (by decide +kernel)
set_option maxRecDepth 20000 in
theorem gL_law_X3_move : GoodIn wsL_law (wsV RL 79 RX3 yX3_move wsX3_move) := goodIn_app (goodIn_of _ (by decide +kernel)) ggL_law_X3_move
set_option maxRecDepth 20000 in
theorem ggL_law_X2_number : GoodIn wsL_law wsX2_number := goodIn_r _ [285, 71, 72, 2, 73, 132, 133, 134, 135, 18, 20, 356, 357, 358, 359, 360, 361, 362, 363, 364, 365, 366, 367, 368, 369, 370] (by decide +kernel) (by decide +kernel)
set_option maxRecDepth 20000 in
theorem gL_law_X2_number : GoodIn wsL_law (wsV RL 80 RX2 yX2_number wsX2_number) := goodIn_app (goodIn_of _ (by decide +kernel)) ggL_law_X2_number
set_option maxRecDepth 20000 in
theorem ggL_law_X3_number : GoodIn wsL_law wsX3_number := goodIn_r _ [289, 140, 52, 53, 144, 145, 5, 146, 371, 372, 373, 374, 375, 376, 377, 378, 379, 380, 381, 382, 383, 384, 385, 386, 387, 388, 389, 390, 391, 392] (by decide +kernel) (by decide +kernel)
set_option maxRecDepth 20000 in
theorem gL_law_X3_number : GoodIn wsL_law (wsV RL 83 RX3 yX3_number wsX3_number) := goodIn_app (goodIn_of _ (by decide +kernel)) ggL_law_X3_number
set_option maxRecDepth 20000 in
theorem ggL_law_L_collect : GoodIn wsL_law wsL_collect := goodIn_ca (goodIn_r _ [292, 61, 293, 294, 295, 2, 296, 66, 67, 68, 70, 79, 84, 85, 86, 87, 88, 89, 90, 91, 92, 93, 94, 95, 96, 97, 24, 98, 31, 20, 99, 100, 101, 102, 30, 103, 29, 104, 105, 41, 42, 106, 107, 108, 109, 110, 111, 112, 113, 114, 115, 116, 117, 18, 118, 119, 120, 121, 122, 123, 23, 124, 125, 126, 127, 356, 357, 358, 359, 360, 361, 362, 363, 364, 365, 366, 367, 368, 369, 370, 393, 394, 395, 396, 397, 398, 399, 400, 401] (by decide +kernel) (by decide +kernel)) (goodIn_sub (fun _ h => List.mem_append_left _ (List.mem_append_left _ (List.mem_append_right _ h))) (by decide +kernel))
set_option maxRecDepth 20000 in
theorem gL_law_L_collect : GoodIn wsL_law (va_wsS RL 84 yL_collect wsL_collect) := goodIn_app (goodIn_of _ (by decide +kernel)) ggL_law_L_collect
set_option maxRecDepth 20000 in
theorem ggL_law_X3_collect : GoodIn wsL_law wsX3_collect := goodIn_r _ [300, 140, 147, 148, 149, 5, 150, 151, 152, 162, 163, 164, 165, 141, 166, 167, 168, 51, 169, 170, 171, 172, 142, 173, 174, 175, 176, 177, 178, 179, 180, 53, 181, 182, 183, 184, 54, 55, 50, 48, 49, 185, 186, 187, 188, 189, 190, 191, 192, 193, 194, 195, 196, 197, 198, 199, 200, 201, 202, 203, 52, 204, 205, 206, 207, 208, 209, 210, 211, 212, 213, 371, 372, 373, 374, 375, 376, 377, 378, 379, 380, 381, 382, 383, 384, 385, 386, 387, 388, 389, 390, 391, 392] (by decide +kernel) (by decide +kernel)
set_option maxRecDepth 20000 in
theorem gL_law_X3_collect : GoodIn wsL_law (wsV RL 87 RX3 yX3_collect wsX3_collect) := goodIn_app (goodIn_of _ (by decide +kernel)) ggL_law_X3_collect
set_option maxRecDepth 20000 in
theorem ggL_law_L_look : GoodIn wsL_law wsL_look := goodIn_ca (goodIn_r _ [303, 304, 305, 306, 307, 2, 308, 309, 310, 18, 20, 30, 71, 72, 73, 356, 357, 358, 359, 360, 361, 362, 363, 364, 365, 366, 367, 368, 369, 370, 397, 398, 399, 400, 401] (by decide +kernel) (by decide +kernel)) (goodIn_sub (fun _ h => List.mem_append_right _ h) (by decide +kernel))
set_option maxRecDepth 20000 in
theorem gL_law_L_look : GoodIn wsL_law (va_wsS RL 88 yL_look wsL_look) := goodIn_app (goodIn_of _ (by decide +kernel)) ggL_law_L_look
set_option maxRecDepth 20000 in
theorem ggL_law_X3_look_ : GoodIn wsL_law wsX3_look_ := goodIn_r _ [314, 140, 142, 52, 53, 49, 50, 144, 145, 5, 146, 185, 186, 187, 371, 372, 373, 374, 375, 376, 377, 378, 379, 380, 381, 382, 383, 384, 385, 386, 387, 388, 389, 390, 391, 392] (by decide +kernel) (by decide +kernel)
set_option maxRecDepth 20000 in
theorem gL_law_X3_look_ : GoodIn wsL_law (wsV RL 90 RX3 yX3_look_ wsX3_look_) := goodIn_app (goodIn_of _ (by decide +kernel)) ggL_law_X3_look_
set_option maxRecDepth 20000 in
theorem ggL_law_L_field : GoodIn wsL_law wsL_field := goodIn_ca (goodIn_r _ [317, 304, 318, 319, 320, 2, 321, 309, 310, 20, 30, 71, 72, 73, 228, 229, 230, 231, 18, 356, 357, 358, 359, 360, 361, 362, 363, 364, 365, 366, 367, 368, 369, 370, 397, 398, 399, 400, 401] (by decide +kernel) (by decide +kernel)) (goodIn_sub (fun _ h => List.mem_append_right _ h) (by decide +kernel))
set_option maxRecDepth 20000 in
theorem gL_law_L_field : GoodIn wsL_law (va_wsS RL 91 yL_field wsL_field) := goodIn_app (goodIn_of _ (by decide +kernel)) ggL_law_L_field
set_option maxRecDepth 20000 in
theorem ggL_law_X3_field : GoodIn wsL_law wsX3_field := goodIn_r _ [325, 140, 142, 53, 49, 48, 144, 145, 5, 146, 244, 245, 246, 247, 52, 185, 186, 187, 371, 372, 373, 374, 375, 376, 377, 378, 379, 380, 381, 382, 383, 384, 385, 386, 387, 388, 389, 390, 391, 392] (by decide +kernel) (by decide +kernel)
set_option maxRecDepth 20000 in
theorem gL_law_X3_field : GoodIn wsL_law (wsV RL 94 RX3 yX3_field wsX3_field) := goodIn_app (goodIn_of _ (by decide +kernel)) ggL_law_X3_field
set_option maxRecDepth 20000 in
theorem ggL_law_L_cell_ : GoodIn wsL_law wsL_cell_ := goodIn_ca (goodIn_r _ [328, 304, 329, 330, 331, 2, 332, 309, 310, 30, 31, 356, 357, 358, 359, 360, 361, 362, 363, 364, 365, 366, 367, 368, 369, 370, 397, 398, 399, 400, 401] (by decide +kernel) (by decide +kernel)) (goodIn_sub (fun _ h => List.mem_append_right _ h) (by decide +kernel))
set_option maxRecDepth 20000 in
theorem gL_law_L_cell_ : GoodIn wsL_law (va_wsS RL 95 yL_cell_ wsL_cell_) := goodIn_app (goodIn_of _ (by decide +kernel)) ggL_law_L_cell_
set_option maxRecDepth 20000 in
theorem ggL_law_X3_cell : GoodIn wsL_law wsX3_cell := goodIn_r _ [336, 51, 140, 48, 49, 50, 185, 186, 5, 187, 371, 372, 373, 374, 375, 376, 377, 378, 379, 380, 381, 382, 383, 384, 385, 386, 387, 388, 389, 390, 391, 392] (by decide +kernel) (by decide +kernel)
set_option maxRecDepth 20000 in
theorem gL_law_X3_cell : GoodIn wsL_law (wsV RL 97 RX3 yX3_cell wsX3_cell) := goodIn_app (goodIn_of _ (by decide +kernel)) ggL_law_X3_cell
set_option maxRecDepth 20000 in
theorem ggL_law_L_entry : GoodIn wsL_law wsL_entry := goodIn_ca (goodIn_r _ [339, 304, 340, 341, 342, 2, 343, 309, 310, 24, 356, 357, 358, 359, 360, 361, 362, 363, 364, 365, 366, 367, 368, 369, 370, 393, 394, 395, 396] (by decide +kernel) (by decide +kernel)) (goodIn_sub (fun _ h => List.mem_append_right _ h) (by decide +kernel))
set_option maxRecDepth 20000 in
theorem gL_law_L_entry : GoodIn wsL_law (va_wsS RL 98 yL_entry wsL_entry) := goodIn_app (goodIn_of _ (by decide +kernel)) ggL_law_L_entry
set_option maxRecDepth 20000 in
theorem ggL_law_X3_entry : GoodIn wsL_law wsX3_entry := goodIn_r _ [347, 167, 140, 54, 55, 371, 372, 373, 374, 375, 376, 377, 378, 379, 380, 381, 382, 383, 384, 385, 386, 387, 388, 389, 390, 391, 392] (by decide +kernel) (by decide +kernel)
set_option maxRecDepth 20000 in
theorem gL_law_X3_entry : GoodIn wsL_law (wsV RL 100 RX3 yX3_entry wsX3_entry) := goodIn_app (goodIn_of _ (by decide +kernel)) ggL_law_X3_entry
set_option maxRecDepth 20000 in
theorem ggL_law_X2_count : GoodIn wsL_law wsX2_count := goodIn_r _ [351, 30, 70, 31, 98, 24, 122, 78, 88, 89, 69, 25, 356, 357, 358, 359, 360, 361, 362, 363, 364, 365, 366, 367, 368, 369, 370, 397, 398, 399, 400, 401, 393, 394, 395, 396] (by decide +kernel) (by decide +kernel)
set_option maxRecDepth 20000 in
theorem gL_law_X2_count : GoodIn wsL_law (wsV RL 101 RX2 yX2_count wsX2_count) := goodIn_app (goodIn_of _ (by decide +kernel)) ggL_law_X2_count
set_option maxRecDepth 20000 in
theorem ggL_law_X3_count : GoodIn wsL_law wsX3_count := goodIn_r _ [355, 140, 142, 141, 51, 166, 167, 168, 208, 161, 151, 213, 143, 56, 169, 170, 171, 5, 172, 371, 372, 373, 374, 375, 376, 377, 378, 379, 380, 381, 382, 383, 384, 385, 386, 387, 388, 389, 390, 391, 392] (by decide +kernel) (by decide +kernel)
set_option maxRecDepth 20000 in
theorem gL_law_X3_count : GoodIn wsL_law (wsV RL 104 RX3 yX3_count wsX3_count) := goodIn_app (goodIn_of _ (by decide +kernel)) ggL_law_X3_count
theorem dL_law_0 : decode cL_law 0 = .ok (.new 8, 3) := by decide +kernel
theorem dL_law_3 : decode cL_law 3 = .ok (.dup, 1) := by decide +kernel
theorem dL_law_4 : decode cL_law 4 = .ok (.aload_n 0, 1) := by decide +kernel
theorem dL_law_5 : decode cL_law 5 = .ok (.iconst 0, 1) := by decide +kernel
theorem dL_law_6 : decode cL_law 6 = .ok (.invokestatic 47, 3) := by decide +kernel
theorem dL_law_9 : decode cL_law 9 = .ok (.aload_n 0, 1) := by decide +kernel
theorem dL_law_10 : decode cL_law 10 = .ok (.iconst 1, 1) := by decide +kernel
theorem dL_law_11 : decode cL_law 11 = .ok (.invokestatic 47, 3) := by decide +kernel
theorem dL_law_14 : decode cL_law 14 = .ok (.invokespecial 52, 3) := by decide +kernel
theorem dL_law_17 : decode cL_law 17 = .ok (.astore_n 1, 1) := by decide +kernel
theorem dL_law_18 : decode cL_law 18 = .ok (.new 55, 3) := by decide +kernel
theorem dL_law_21 : decode cL_law 21 = .ok (.dup, 1) := by decide +kernel
theorem dL_law_22 : decode cL_law 22 = .ok (.aload_n 0, 1) := by decide +kernel
theorem dL_law_23 : decode cL_law 23 = .ok (.iconst 0, 1) := by decide +kernel
theorem dL_law_24 : decode cL_law 24 = .ok (.invokestatic 47, 3) := by decide +kernel
theorem dL_law_27 : decode cL_law 27 = .ok (.aload_n 0, 1) := by decide +kernel
theorem dL_law_28 : decode cL_law 28 = .ok (.iconst 1, 1) := by decide +kernel
theorem dL_law_29 : decode cL_law 29 = .ok (.invokestatic 47, 3) := by decide +kernel
theorem dL_law_32 : decode cL_law 32 = .ok (.invokespecial 57, 3) := by decide +kernel
theorem dL_law_35 : decode cL_law 35 = .ok (.astore_n 2, 1) := by decide +kernel
theorem dL_law_36 : decode cL_law 36 = .ok (.iconst 1, 1) := by decide +kernel
theorem dL_law_37 : decode cL_law 37 = .ok (.newarray .long, 2) := by decide +kernel
theorem dL_law_39 : decode cL_law 39 = .ok (.astore_n 3, 1) := by decide +kernel
theorem dL_law_40 : decode cL_law 40 = .ok (.iconst 2, 1) := by decide +kernel
theorem dL_law_41 : decode cL_law 41 = .ok (.istore 4, 2) := by decide +kernel
theorem dL_law_43 : decode cL_law 43 = .ok (.iload 4, 2) := by decide +kernel
theorem dL_law_45 : decode cL_law 45 = .ok (.aload_n 0, 1) := by decide +kernel
theorem dL_law_46 : decode cL_law 46 = .ok (.arraylength, 1) := by decide +kernel
theorem dL_law_47 : decode cL_law 47 = .ok (.iconst 4, 1) := by decide +kernel
theorem dL_law_48 : decode cL_law 48 = .ok (.isub, 1) := by decide +kernel
theorem dL_law_49 : decode cL_law 49 = .ok (.if_icmp .gt 783, 3) := by decide +kernel
theorem dL_law_52 : decode cL_law 52 = .ok (.aload_n 0, 1) := by decide +kernel
theorem dL_law_53 : decode cL_law 53 = .ok (.iload 4, 2) := by decide +kernel
theorem dL_law_55 : decode cL_law 55 = .ok (.iaload, 1) := by decide +kernel
theorem dL_law_56 : decode cL_law 56 = .ok (.bipush 15, 2) := by decide +kernel
theorem dL_law_58 : decode cL_law 58 = .ok (.iand, 1) := by decide +kernel
theorem dL_law_59 : decode cL_law 59 = .ok (.tableswitch 767 0 11 #[61, 136, 196, 256, 316, 353, 390, 446, 514, 594, 674, 742], 61) := by decide +kernel
theorem dL_law_120 : decode cL_law 120 = .ok (.aload_n 1, 1) := by decide +kernel
theorem dL_law_121 : decode cL_law 121 = .ok (.aload_n 0, 1) := by decide +kernel
theorem dL_law_122 : decode cL_law 122 = .ok (.iload 4, 2) := by decide +kernel
theorem dL_law_124 : decode cL_law 124 = .ok (.iconst 1, 1) := by decide +kernel
theorem dL_law_125 : decode cL_law 125 = .ok (.iadd, 1) := by decide +kernel
theorem dL_law_126 : decode cL_law 126 = .ok (.iaload, 1) := by decide +kernel
theorem dL_law_127 : decode cL_law 127 = .ok (.aload_n 0, 1) := by decide +kernel
theorem dL_law_128 : decode cL_law 128 = .ok (.iload 4, 2) := by decide +kernel
theorem dL_law_130 : decode cL_law 130 = .ok (.iconst 2, 1) := by decide +kernel
theorem dL_law_131 : decode cL_law 131 = .ok (.iadd, 1) := by decide +kernel
theorem dL_law_132 : decode cL_law 132 = .ok (.iaload, 1) := by decide +kernel
theorem dL_law_133 : decode cL_law 133 = .ok (.aload_n 3, 1) := by decide +kernel
theorem dL_law_134 : decode cL_law 134 = .ok (.invokestatic 58, 3) := by decide +kernel
theorem dL_law_137 : decode cL_law 137 = .ok (.istore 5, 2) := by decide +kernel
theorem dL_law_139 : decode cL_law 139 = .ok (.aload_n 2, 1) := by decide +kernel
theorem dL_law_140 : decode cL_law 140 = .ok (.aload_n 0, 1) := by decide +kernel
theorem dL_law_141 : decode cL_law 141 = .ok (.iload 4, 2) := by decide +kernel
theorem dL_law_143 : decode cL_law 143 = .ok (.iconst 1, 1) := by decide +kernel
theorem dL_law_144 : decode cL_law 144 = .ok (.iadd, 1) := by decide +kernel
theorem dL_law_145 : decode cL_law 145 = .ok (.iaload, 1) := by decide +kernel
theorem dL_law_146 : decode cL_law 146 = .ok (.aload_n 0, 1) := by decide +kernel
theorem dL_law_147 : decode cL_law 147 = .ok (.iload 4, 2) := by decide +kernel
theorem dL_law_149 : decode cL_law 149 = .ok (.iconst 2, 1) := by decide +kernel
theorem dL_law_150 : decode cL_law 150 = .ok (.iadd, 1) := by decide +kernel
theorem dL_law_151 : decode cL_law 151 = .ok (.iaload, 1) := by decide +kernel
theorem dL_law_152 : decode cL_law 152 = .ok (.invokevirtual 61, 3) := by decide +kernel
theorem dL_law_155 : decode cL_law 155 = .ok (.istore 6, 2) := by decide +kernel
theorem dL_law_157 : decode cL_law 157 = .ok (.aload_n 2, 1) := by decide +kernel
theorem dL_law_158 : decode cL_law 158 = .ok (.invokevirtual 62, 3) := by decide +kernel
theorem dL_law_161 : decode cL_law 161 = .ok (.iload 5, 2) := by decide +kernel
theorem dL_law_163 : decode cL_law 163 = .ok (.if_icmp .eq 5, 3) := by decide +kernel
theorem dL_law_166 : decode cL_law 166 = .ok (.iconst 0, 1) := by decide +kernel
theorem dL_law_167 : decode cL_law 167 = .ok (.ireturn, 1) := by decide +kernel
theorem dL_law_168 : decode cL_law 168 = .ok (.iload 5, 2) := by decide +kernel
theorem dL_law_170 : decode cL_law 170 = .ok (.ifCond .ne 22, 3) := by decide +kernel
theorem dL_law_173 : decode cL_law 173 = .ok (.aload_n 3, 1) := by decide +kernel
theorem dL_law_174 : decode cL_law 174 = .ok (.iconst 0, 1) := by decide +kernel
theorem dL_law_175 : decode cL_law 175 = .ok (.laload, 1) := by decide +kernel
theorem dL_law_176 : decode cL_law 176 = .ok (.iload 6, 2) := by decide +kernel
theorem dL_law_178 : decode cL_law 178 = .ok (.ifCond .eq 7, 3) := by decide +kernel
theorem dL_law_181 : decode cL_law 181 = .ok (.lconst 1, 1) := by decide +kernel
theorem dL_law_182 : decode cL_law 182 = .ok (.goto 4, 3) := by decide +kernel
theorem dL_law_185 : decode cL_law 185 = .ok (.lconst 0, 1) := by decide +kernel
theorem dL_law_186 : decode cL_law 186 = .ok (.lcmp, 1) := by decide +kernel
theorem dL_law_187 : decode cL_law 187 = .ok (.ifCond .eq 5, 3) := by decide +kernel
theorem dL_law_190 : decode cL_law 190 = .ok (.iconst 0, 1) := by decide +kernel
theorem dL_law_191 : decode cL_law 191 = .ok (.ireturn, 1) := by decide +kernel
theorem dL_law_192 : decode cL_law 192 = .ok (.goto 634, 3) := by decide +kernel
theorem dL_law_195 : decode cL_law 195 = .ok (.aload_n 1, 1) := by decide +kernel
theorem dL_law_196 : decode cL_law 196 = .ok (.aload_n 0, 1) := by decide +kernel
theorem dL_law_197 : decode cL_law 197 = .ok (.iload 4, 2) := by decide +kernel
theorem dL_law_199 : decode cL_law 199 = .ok (.iconst 1, 1) := by decide +kernel
theorem dL_law_200 : decode cL_law 200 = .ok (.iadd, 1) := by decide +kernel
theorem dL_law_201 : decode cL_law 201 = .ok (.iaload, 1) := by decide +kernel
theorem dL_law_202 : decode cL_law 202 = .ok (.aload_n 0, 1) := by decide +kernel
theorem dL_law_203 : decode cL_law 203 = .ok (.iload 4, 2) := by decide +kernel
theorem dL_law_205 : decode cL_law 205 = .ok (.iconst 2, 1) := by decide +kernel
theorem dL_law_206 : decode cL_law 206 = .ok (.iadd, 1) := by decide +kernel
theorem dL_law_207 : decode cL_law 207 = .ok (.iaload, 1) := by decide +kernel
theorem dL_law_208 : decode cL_law 208 = .ok (.aload_n 0, 1) := by decide +kernel
theorem dL_law_209 : decode cL_law 209 = .ok (.iload 4, 2) := by decide +kernel
theorem dL_law_211 : decode cL_law 211 = .ok (.iconst 3, 1) := by decide +kernel
theorem dL_law_212 : decode cL_law 212 = .ok (.iadd, 1) := by decide +kernel
theorem dL_law_213 : decode cL_law 213 = .ok (.iaload, 1) := by decide +kernel
theorem dL_law_214 : decode cL_law 214 = .ok (.invokestatic 66, 3) := by decide +kernel
theorem dL_law_217 : decode cL_law 217 = .ok (.istore 5, 2) := by decide +kernel
theorem dL_law_219 : decode cL_law 219 = .ok (.aload_n 2, 1) := by decide +kernel
theorem dL_law_220 : decode cL_law 220 = .ok (.aload_n 0, 1) := by decide +kernel
theorem dL_law_221 : decode cL_law 221 = .ok (.iload 4, 2) := by decide +kernel
theorem dL_law_223 : decode cL_law 223 = .ok (.iconst 1, 1) := by decide +kernel
theorem dL_law_224 : decode cL_law 224 = .ok (.iadd, 1) := by decide +kernel
theorem dL_law_225 : decode cL_law 225 = .ok (.iaload, 1) := by decide +kernel
theorem dL_law_226 : decode cL_law 226 = .ok (.aload_n 0, 1) := by decide +kernel
theorem dL_law_227 : decode cL_law 227 = .ok (.iload 4, 2) := by decide +kernel
theorem dL_law_229 : decode cL_law 229 = .ok (.iconst 2, 1) := by decide +kernel
theorem dL_law_230 : decode cL_law 230 = .ok (.iadd, 1) := by decide +kernel
theorem dL_law_231 : decode cL_law 231 = .ok (.iaload, 1) := by decide +kernel
theorem dL_law_232 : decode cL_law 232 = .ok (.aload_n 0, 1) := by decide +kernel
theorem dL_law_233 : decode cL_law 233 = .ok (.iload 4, 2) := by decide +kernel
theorem dL_law_235 : decode cL_law 235 = .ok (.iconst 3, 1) := by decide +kernel
theorem dL_law_236 : decode cL_law 236 = .ok (.iadd, 1) := by decide +kernel
theorem dL_law_237 : decode cL_law 237 = .ok (.iaload, 1) := by decide +kernel
theorem dL_law_238 : decode cL_law 238 = .ok (.invokevirtual 69, 3) := by decide +kernel
theorem dL_law_241 : decode cL_law 241 = .ok (.aload_n 2, 1) := by decide +kernel
theorem dL_law_242 : decode cL_law 242 = .ok (.invokevirtual 62, 3) := by decide +kernel
theorem dL_law_245 : decode cL_law 245 = .ok (.iload 5, 2) := by decide +kernel
theorem dL_law_247 : decode cL_law 247 = .ok (.if_icmp .eq 5, 3) := by decide +kernel
theorem dL_law_250 : decode cL_law 250 = .ok (.iconst 0, 1) := by decide +kernel
theorem dL_law_251 : decode cL_law 251 = .ok (.ireturn, 1) := by decide +kernel
theorem dL_law_252 : decode cL_law 252 = .ok (.goto 574, 3) := by decide +kernel
theorem dL_law_255 : decode cL_law 255 = .ok (.aload_n 1, 1) := by decide +kernel
theorem dL_law_256 : decode cL_law 256 = .ok (.aload_n 0, 1) := by decide +kernel
theorem dL_law_257 : decode cL_law 257 = .ok (.iload 4, 2) := by decide +kernel
theorem dL_law_259 : decode cL_law 259 = .ok (.iconst 1, 1) := by decide +kernel
theorem dL_law_260 : decode cL_law 260 = .ok (.iadd, 1) := by decide +kernel
theorem dL_law_261 : decode cL_law 261 = .ok (.iaload, 1) := by decide +kernel
theorem dL_law_262 : decode cL_law 262 = .ok (.aload_n 0, 1) := by decide +kernel
theorem dL_law_263 : decode cL_law 263 = .ok (.iload 4, 2) := by decide +kernel
theorem dL_law_265 : decode cL_law 265 = .ok (.iconst 2, 1) := by decide +kernel
theorem dL_law_266 : decode cL_law 266 = .ok (.iadd, 1) := by decide +kernel
theorem dL_law_267 : decode cL_law 267 = .ok (.iaload, 1) := by decide +kernel
theorem dL_law_268 : decode cL_law 268 = .ok (.aload_n 0, 1) := by decide +kernel
theorem dL_law_269 : decode cL_law 269 = .ok (.iload 4, 2) := by decide +kernel
theorem dL_law_271 : decode cL_law 271 = .ok (.iconst 3, 1) := by decide +kernel
theorem dL_law_272 : decode cL_law 272 = .ok (.iadd, 1) := by decide +kernel
theorem dL_law_273 : decode cL_law 273 = .ok (.iaload, 1) := by decide +kernel
theorem dL_law_274 : decode cL_law 274 = .ok (.invokestatic 70, 3) := by decide +kernel
theorem dL_law_277 : decode cL_law 277 = .ok (.istore 5, 2) := by decide +kernel
theorem dL_law_279 : decode cL_law 279 = .ok (.aload_n 2, 1) := by decide +kernel
theorem dL_law_280 : decode cL_law 280 = .ok (.aload_n 0, 1) := by decide +kernel
theorem dL_law_281 : decode cL_law 281 = .ok (.iload 4, 2) := by decide +kernel
theorem dL_law_283 : decode cL_law 283 = .ok (.iconst 1, 1) := by decide +kernel
theorem dL_law_284 : decode cL_law 284 = .ok (.iadd, 1) := by decide +kernel
theorem dL_law_285 : decode cL_law 285 = .ok (.iaload, 1) := by decide +kernel
theorem dL_law_286 : decode cL_law 286 = .ok (.aload_n 0, 1) := by decide +kernel
theorem dL_law_287 : decode cL_law 287 = .ok (.iload 4, 2) := by decide +kernel
theorem dL_law_289 : decode cL_law 289 = .ok (.iconst 2, 1) := by decide +kernel
theorem dL_law_290 : decode cL_law 290 = .ok (.iadd, 1) := by decide +kernel
theorem dL_law_291 : decode cL_law 291 = .ok (.iaload, 1) := by decide +kernel
theorem dL_law_292 : decode cL_law 292 = .ok (.aload_n 0, 1) := by decide +kernel
theorem dL_law_293 : decode cL_law 293 = .ok (.iload 4, 2) := by decide +kernel
theorem dL_law_295 : decode cL_law 295 = .ok (.iconst 3, 1) := by decide +kernel
theorem dL_law_296 : decode cL_law 296 = .ok (.iadd, 1) := by decide +kernel
theorem dL_law_297 : decode cL_law 297 = .ok (.iaload, 1) := by decide +kernel
theorem dL_law_298 : decode cL_law 298 = .ok (.invokevirtual 72, 3) := by decide +kernel
theorem dL_law_301 : decode cL_law 301 = .ok (.aload_n 2, 1) := by decide +kernel
theorem dL_law_302 : decode cL_law 302 = .ok (.invokevirtual 62, 3) := by decide +kernel
theorem dL_law_305 : decode cL_law 305 = .ok (.iload 5, 2) := by decide +kernel
theorem dL_law_307 : decode cL_law 307 = .ok (.if_icmp .eq 5, 3) := by decide +kernel
theorem dL_law_310 : decode cL_law 310 = .ok (.iconst 0, 1) := by decide +kernel
theorem dL_law_311 : decode cL_law 311 = .ok (.ireturn, 1) := by decide +kernel
theorem dL_law_312 : decode cL_law 312 = .ok (.goto 514, 3) := by decide +kernel
theorem dL_law_315 : decode cL_law 315 = .ok (.aload_n 1, 1) := by decide +kernel
theorem dL_law_316 : decode cL_law 316 = .ok (.aload_n 0, 1) := by decide +kernel
theorem dL_law_317 : decode cL_law 317 = .ok (.iload 4, 2) := by decide +kernel
theorem dL_law_319 : decode cL_law 319 = .ok (.iconst 1, 1) := by decide +kernel
theorem dL_law_320 : decode cL_law 320 = .ok (.iadd, 1) := by decide +kernel
theorem dL_law_321 : decode cL_law 321 = .ok (.iaload, 1) := by decide +kernel
theorem dL_law_322 : decode cL_law 322 = .ok (.aload_n 0, 1) := by decide +kernel
theorem dL_law_323 : decode cL_law 323 = .ok (.iload 4, 2) := by decide +kernel
theorem dL_law_325 : decode cL_law 325 = .ok (.iconst 2, 1) := by decide +kernel
theorem dL_law_326 : decode cL_law 326 = .ok (.iadd, 1) := by decide +kernel
theorem dL_law_327 : decode cL_law 327 = .ok (.iaload, 1) := by decide +kernel
theorem dL_law_328 : decode cL_law 328 = .ok (.aload_n 0, 1) := by decide +kernel
theorem dL_law_329 : decode cL_law 329 = .ok (.iload 4, 2) := by decide +kernel
theorem dL_law_331 : decode cL_law 331 = .ok (.iconst 3, 1) := by decide +kernel
theorem dL_law_332 : decode cL_law 332 = .ok (.iadd, 1) := by decide +kernel
theorem dL_law_333 : decode cL_law 333 = .ok (.iaload, 1) := by decide +kernel
theorem dL_law_334 : decode cL_law 334 = .ok (.invokestatic 73, 3) := by decide +kernel
theorem dL_law_337 : decode cL_law 337 = .ok (.istore 5, 2) := by decide +kernel
theorem dL_law_339 : decode cL_law 339 = .ok (.aload_n 2, 1) := by decide +kernel
theorem dL_law_340 : decode cL_law 340 = .ok (.aload_n 0, 1) := by decide +kernel
theorem dL_law_341 : decode cL_law 341 = .ok (.iload 4, 2) := by decide +kernel
theorem dL_law_343 : decode cL_law 343 = .ok (.iconst 1, 1) := by decide +kernel
theorem dL_law_344 : decode cL_law 344 = .ok (.iadd, 1) := by decide +kernel
theorem dL_law_345 : decode cL_law 345 = .ok (.iaload, 1) := by decide +kernel
theorem dL_law_346 : decode cL_law 346 = .ok (.aload_n 0, 1) := by decide +kernel
theorem dL_law_347 : decode cL_law 347 = .ok (.iload 4, 2) := by decide +kernel
theorem dL_law_349 : decode cL_law 349 = .ok (.iconst 2, 1) := by decide +kernel
theorem dL_law_350 : decode cL_law 350 = .ok (.iadd, 1) := by decide +kernel
theorem dL_law_351 : decode cL_law 351 = .ok (.iaload, 1) := by decide +kernel
theorem dL_law_352 : decode cL_law 352 = .ok (.aload_n 0, 1) := by decide +kernel
theorem dL_law_353 : decode cL_law 353 = .ok (.iload 4, 2) := by decide +kernel
theorem dL_law_355 : decode cL_law 355 = .ok (.iconst 3, 1) := by decide +kernel
theorem dL_law_356 : decode cL_law 356 = .ok (.iadd, 1) := by decide +kernel
theorem dL_law_357 : decode cL_law 357 = .ok (.iaload, 1) := by decide +kernel
theorem dL_law_358 : decode cL_law 358 = .ok (.invokevirtual 75, 3) := by decide +kernel
theorem dL_law_361 : decode cL_law 361 = .ok (.aload_n 2, 1) := by decide +kernel
theorem dL_law_362 : decode cL_law 362 = .ok (.invokevirtual 62, 3) := by decide +kernel
theorem dL_law_365 : decode cL_law 365 = .ok (.iload 5, 2) := by decide +kernel
theorem dL_law_367 : decode cL_law 367 = .ok (.if_icmp .eq 5, 3) := by decide +kernel
theorem dL_law_370 : decode cL_law 370 = .ok (.iconst 0, 1) := by decide +kernel
theorem dL_law_371 : decode cL_law 371 = .ok (.ireturn, 1) := by decide +kernel
theorem dL_law_372 : decode cL_law 372 = .ok (.goto 454, 3) := by decide +kernel
theorem dL_law_375 : decode cL_law 375 = .ok (.aload_n 1, 1) := by decide +kernel
theorem dL_law_376 : decode cL_law 376 = .ok (.aload_n 0, 1) := by decide +kernel
theorem dL_law_377 : decode cL_law 377 = .ok (.iload 4, 2) := by decide +kernel
theorem dL_law_379 : decode cL_law 379 = .ok (.iconst 1, 1) := by decide +kernel
theorem dL_law_380 : decode cL_law 380 = .ok (.iadd, 1) := by decide +kernel
theorem dL_law_381 : decode cL_law 381 = .ok (.iaload, 1) := by decide +kernel
theorem dL_law_382 : decode cL_law 382 = .ok (.aload_n 0, 1) := by decide +kernel
theorem dL_law_383 : decode cL_law 383 = .ok (.iload 4, 2) := by decide +kernel
theorem dL_law_385 : decode cL_law 385 = .ok (.iconst 2, 1) := by decide +kernel
theorem dL_law_386 : decode cL_law 386 = .ok (.iadd, 1) := by decide +kernel
theorem dL_law_387 : decode cL_law 387 = .ok (.iaload, 1) := by decide +kernel
theorem dL_law_388 : decode cL_law 388 = .ok (.invokevirtual 76, 3) := by decide +kernel
theorem dL_law_391 : decode cL_law 391 = .ok (.aload_n 2, 1) := by decide +kernel
theorem dL_law_392 : decode cL_law 392 = .ok (.aload_n 0, 1) := by decide +kernel
theorem dL_law_393 : decode cL_law 393 = .ok (.iload 4, 2) := by decide +kernel
theorem dL_law_395 : decode cL_law 395 = .ok (.iconst 1, 1) := by decide +kernel
theorem dL_law_396 : decode cL_law 396 = .ok (.iadd, 1) := by decide +kernel
theorem dL_law_397 : decode cL_law 397 = .ok (.iaload, 1) := by decide +kernel
theorem dL_law_398 : decode cL_law 398 = .ok (.aload_n 0, 1) := by decide +kernel
theorem dL_law_399 : decode cL_law 399 = .ok (.iload 4, 2) := by decide +kernel
theorem dL_law_401 : decode cL_law 401 = .ok (.iconst 2, 1) := by decide +kernel
theorem dL_law_402 : decode cL_law 402 = .ok (.iadd, 1) := by decide +kernel
theorem dL_law_403 : decode cL_law 403 = .ok (.iaload, 1) := by decide +kernel
theorem dL_law_404 : decode cL_law 404 = .ok (.invokevirtual 79, 3) := by decide +kernel
theorem dL_law_407 : decode cL_law 407 = .ok (.if_icmp .eq 419, 3) := by decide +kernel
theorem dL_law_410 : decode cL_law 410 = .ok (.iconst 0, 1) := by decide +kernel
theorem dL_law_411 : decode cL_law 411 = .ok (.ireturn, 1) := by decide +kernel
theorem dL_law_412 : decode cL_law 412 = .ok (.aload_n 1, 1) := by decide +kernel
theorem dL_law_413 : decode cL_law 413 = .ok (.aload_n 0, 1) := by decide +kernel
theorem dL_law_414 : decode cL_law 414 = .ok (.iload 4, 2) := by decide +kernel
theorem dL_law_416 : decode cL_law 416 = .ok (.iconst 1, 1) := by decide +kernel
theorem dL_law_417 : decode cL_law 417 = .ok (.iadd, 1) := by decide +kernel
theorem dL_law_418 : decode cL_law 418 = .ok (.iaload, 1) := by decide +kernel
theorem dL_law_419 : decode cL_law 419 = .ok (.aload_n 0, 1) := by decide +kernel
theorem dL_law_420 : decode cL_law 420 = .ok (.iload 4, 2) := by decide +kernel
theorem dL_law_422 : decode cL_law 422 = .ok (.iconst 2, 1) := by decide +kernel
theorem dL_law_423 : decode cL_law 423 = .ok (.iadd, 1) := by decide +kernel
theorem dL_law_424 : decode cL_law 424 = .ok (.iaload, 1) := by decide +kernel
theorem dL_law_425 : decode cL_law 425 = .ok (.invokevirtual 80, 3) := by decide +kernel
theorem dL_law_428 : decode cL_law 428 = .ok (.aload_n 2, 1) := by decide +kernel
theorem dL_law_429 : decode cL_law 429 = .ok (.aload_n 0, 1) := by decide +kernel
theorem dL_law_430 : decode cL_law 430 = .ok (.iload 4, 2) := by decide +kernel
theorem dL_law_432 : decode cL_law 432 = .ok (.iconst 1, 1) := by decide +kernel
theorem dL_law_433 : decode cL_law 433 = .ok (.iadd, 1) := by decide +kernel
theorem dL_law_434 : decode cL_law 434 = .ok (.iaload, 1) := by decide +kernel
theorem dL_law_435 : decode cL_law 435 = .ok (.aload_n 0, 1) := by decide +kernel
theorem dL_law_436 : decode cL_law 436 = .ok (.iload 4, 2) := by decide +kernel
theorem dL_law_438 : decode cL_law 438 = .ok (.iconst 2, 1) := by decide +kernel
theorem dL_law_439 : decode cL_law 439 = .ok (.iadd, 1) := by decide +kernel
theorem dL_law_440 : decode cL_law 440 = .ok (.iaload, 1) := by decide +kernel
theorem dL_law_441 : decode cL_law 441 = .ok (.invokevirtual 83, 3) := by decide +kernel
theorem dL_law_444 : decode cL_law 444 = .ok (.if_icmp .eq 382, 3) := by decide +kernel
theorem dL_law_447 : decode cL_law 447 = .ok (.iconst 0, 1) := by decide +kernel
theorem dL_law_448 : decode cL_law 448 = .ok (.ireturn, 1) := by decide +kernel
theorem dL_law_449 : decode cL_law 449 = .ok (.aload_n 1, 1) := by decide +kernel
theorem dL_law_450 : decode cL_law 450 = .ok (.aload_n 0, 1) := by decide +kernel
theorem dL_law_451 : decode cL_law 451 = .ok (.iload 4, 2) := by decide +kernel
theorem dL_law_453 : decode cL_law 453 = .ok (.iconst 1, 1) := by decide +kernel
theorem dL_law_454 : decode cL_law 454 = .ok (.iadd, 1) := by decide +kernel
theorem dL_law_455 : decode cL_law 455 = .ok (.iaload, 1) := by decide +kernel
theorem dL_law_456 : decode cL_law 456 = .ok (.aload_n 3, 1) := by decide +kernel
theorem dL_law_457 : decode cL_law 457 = .ok (.invokestatic 84, 3) := by decide +kernel
theorem dL_law_460 : decode cL_law 460 = .ok (.istore 5, 2) := by decide +kernel
theorem dL_law_462 : decode cL_law 462 = .ok (.aload_n 2, 1) := by decide +kernel
theorem dL_law_463 : decode cL_law 463 = .ok (.aload_n 0, 1) := by decide +kernel
theorem dL_law_464 : decode cL_law 464 = .ok (.iload 4, 2) := by decide +kernel
theorem dL_law_466 : decode cL_law 466 = .ok (.iconst 1, 1) := by decide +kernel
theorem dL_law_467 : decode cL_law 467 = .ok (.iadd, 1) := by decide +kernel
theorem dL_law_468 : decode cL_law 468 = .ok (.iaload, 1) := by decide +kernel
theorem dL_law_469 : decode cL_law 469 = .ok (.invokevirtual 87, 3) := by decide +kernel
theorem dL_law_472 : decode cL_law 472 = .ok (.istore 6, 2) := by decide +kernel
theorem dL_law_474 : decode cL_law 474 = .ok (.aload_n 2, 1) := by decide +kernel
theorem dL_law_475 : decode cL_law 475 = .ok (.invokevirtual 62, 3) := by decide +kernel
theorem dL_law_478 : decode cL_law 478 = .ok (.iload 5, 2) := by decide +kernel
theorem dL_law_480 : decode cL_law 480 = .ok (.if_icmp .eq 5, 3) := by decide +kernel
theorem dL_law_483 : decode cL_law 483 = .ok (.iconst 0, 1) := by decide +kernel
theorem dL_law_484 : decode cL_law 484 = .ok (.ireturn, 1) := by decide +kernel
theorem dL_law_485 : decode cL_law 485 = .ok (.iload 5, 2) := by decide +kernel
theorem dL_law_487 : decode cL_law 487 = .ok (.ifCond .ne 15, 3) := by decide +kernel
theorem dL_law_490 : decode cL_law 490 = .ok (.aload_n 3, 1) := by decide +kernel
theorem dL_law_491 : decode cL_law 491 = .ok (.iconst 0, 1) := by decide +kernel
theorem dL_law_492 : decode cL_law 492 = .ok (.laload, 1) := by decide +kernel
theorem dL_law_493 : decode cL_law 493 = .ok (.iload 6, 2) := by decide +kernel
theorem dL_law_495 : decode cL_law 495 = .ok (.i2l, 1) := by decide +kernel
theorem dL_law_496 : decode cL_law 496 = .ok (.lcmp, 1) := by decide +kernel
theorem dL_law_497 : decode cL_law 497 = .ok (.ifCond .eq 5, 3) := by decide +kernel
theorem dL_law_500 : decode cL_law 500 = .ok (.iconst 0, 1) := by decide +kernel
theorem dL_law_501 : decode cL_law 501 = .ok (.ireturn, 1) := by decide +kernel
theorem dL_law_502 : decode cL_law 502 = .ok (.goto 324, 3) := by decide +kernel
theorem dL_law_505 : decode cL_law 505 = .ok (.aload_n 1, 1) := by decide +kernel
theorem dL_law_506 : decode cL_law 506 = .ok (.aload_n 0, 1) := by decide +kernel
theorem dL_law_507 : decode cL_law 507 = .ok (.iload 4, 2) := by decide +kernel
theorem dL_law_509 : decode cL_law 509 = .ok (.iconst 1, 1) := by decide +kernel
theorem dL_law_510 : decode cL_law 510 = .ok (.iadd, 1) := by decide +kernel
theorem dL_law_511 : decode cL_law 511 = .ok (.iaload, 1) := by decide +kernel
theorem dL_law_512 : decode cL_law 512 = .ok (.aload_n 0, 1) := by decide +kernel
theorem dL_law_513 : decode cL_law 513 = .ok (.iload 4, 2) := by decide +kernel
theorem dL_law_515 : decode cL_law 515 = .ok (.iconst 2, 1) := by decide +kernel
theorem dL_law_516 : decode cL_law 516 = .ok (.iadd, 1) := by decide +kernel
theorem dL_law_517 : decode cL_law 517 = .ok (.iaload, 1) := by decide +kernel
theorem dL_law_518 : decode cL_law 518 = .ok (.aload_n 3, 1) := by decide +kernel
theorem dL_law_519 : decode cL_law 519 = .ok (.invokestatic 88, 3) := by decide +kernel
theorem dL_law_522 : decode cL_law 522 = .ok (.istore 5, 2) := by decide +kernel
theorem dL_law_524 : decode cL_law 524 = .ok (.aload_n 2, 1) := by decide +kernel
theorem dL_law_525 : decode cL_law 525 = .ok (.aload_n 0, 1) := by decide +kernel
theorem dL_law_526 : decode cL_law 526 = .ok (.iload 4, 2) := by decide +kernel
theorem dL_law_528 : decode cL_law 528 = .ok (.iconst 1, 1) := by decide +kernel
theorem dL_law_529 : decode cL_law 529 = .ok (.iadd, 1) := by decide +kernel
theorem dL_law_530 : decode cL_law 530 = .ok (.iaload, 1) := by decide +kernel
theorem dL_law_531 : decode cL_law 531 = .ok (.aload_n 0, 1) := by decide +kernel
theorem dL_law_532 : decode cL_law 532 = .ok (.iload 4, 2) := by decide +kernel
theorem dL_law_534 : decode cL_law 534 = .ok (.iconst 2, 1) := by decide +kernel
theorem dL_law_535 : decode cL_law 535 = .ok (.iadd, 1) := by decide +kernel
theorem dL_law_536 : decode cL_law 536 = .ok (.iaload, 1) := by decide +kernel
theorem dL_law_537 : decode cL_law 537 = .ok (.invokevirtual 90, 3) := by decide +kernel
theorem dL_law_540 : decode cL_law 540 = .ok (.istore 6, 2) := by decide +kernel
theorem dL_law_542 : decode cL_law 542 = .ok (.aload_n 2, 1) := by decide +kernel
theorem dL_law_543 : decode cL_law 543 = .ok (.invokevirtual 62, 3) := by decide +kernel
theorem dL_law_546 : decode cL_law 546 = .ok (.iload 5, 2) := by decide +kernel
theorem dL_law_548 : decode cL_law 548 = .ok (.if_icmp .eq 5, 3) := by decide +kernel
theorem dL_law_551 : decode cL_law 551 = .ok (.iconst 0, 1) := by decide +kernel
theorem dL_law_552 : decode cL_law 552 = .ok (.ireturn, 1) := by decide +kernel
theorem dL_law_553 : decode cL_law 553 = .ok (.iload 5, 2) := by decide +kernel
theorem dL_law_555 : decode cL_law 555 = .ok (.ifCond .ne 15, 3) := by decide +kernel
theorem dL_law_558 : decode cL_law 558 = .ok (.aload_n 3, 1) := by decide +kernel
theorem dL_law_559 : decode cL_law 559 = .ok (.iconst 0, 1) := by decide +kernel
theorem dL_law_560 : decode cL_law 560 = .ok (.laload, 1) := by decide +kernel
theorem dL_law_561 : decode cL_law 561 = .ok (.iload 6, 2) := by decide +kernel
theorem dL_law_563 : decode cL_law 563 = .ok (.i2l, 1) := by decide +kernel
theorem dL_law_564 : decode cL_law 564 = .ok (.lcmp, 1) := by decide +kernel
theorem dL_law_565 : decode cL_law 565 = .ok (.ifCond .eq 5, 3) := by decide +kernel
theorem dL_law_568 : decode cL_law 568 = .ok (.iconst 0, 1) := by decide +kernel
theorem dL_law_569 : decode cL_law 569 = .ok (.ireturn, 1) := by decide +kernel
theorem dL_law_570 : decode cL_law 570 = .ok (.goto 256, 3) := by decide +kernel
theorem dL_law_573 : decode cL_law 573 = .ok (.aload_n 1, 1) := by decide +kernel
theorem dL_law_574 : decode cL_law 574 = .ok (.aload_n 0, 1) := by decide +kernel
theorem dL_law_575 : decode cL_law 575 = .ok (.iload 4, 2) := by decide +kernel
theorem dL_law_577 : decode cL_law 577 = .ok (.iconst 1, 1) := by decide +kernel
theorem dL_law_578 : decode cL_law 578 = .ok (.iadd, 1) := by decide +kernel
theorem dL_law_579 : decode cL_law 579 = .ok (.iaload, 1) := by decide +kernel
theorem dL_law_580 : decode cL_law 580 = .ok (.aload_n 0, 1) := by decide +kernel
theorem dL_law_581 : decode cL_law 581 = .ok (.iload 4, 2) := by decide +kernel
theorem dL_law_583 : decode cL_law 583 = .ok (.iconst 2, 1) := by decide +kernel
theorem dL_law_584 : decode cL_law 584 = .ok (.iadd, 1) := by decide +kernel
theorem dL_law_585 : decode cL_law 585 = .ok (.iaload, 1) := by decide +kernel
theorem dL_law_586 : decode cL_law 586 = .ok (.aload_n 0, 1) := by decide +kernel
theorem dL_law_587 : decode cL_law 587 = .ok (.iload 4, 2) := by decide +kernel
theorem dL_law_589 : decode cL_law 589 = .ok (.iconst 3, 1) := by decide +kernel
theorem dL_law_590 : decode cL_law 590 = .ok (.iadd, 1) := by decide +kernel
theorem dL_law_591 : decode cL_law 591 = .ok (.iaload, 1) := by decide +kernel
theorem dL_law_592 : decode cL_law 592 = .ok (.aload_n 3, 1) := by decide +kernel
theorem dL_law_593 : decode cL_law 593 = .ok (.invokestatic 91, 3) := by decide +kernel
theorem dL_law_596 : decode cL_law 596 = .ok (.istore 5, 2) := by decide +kernel
theorem dL_law_598 : decode cL_law 598 = .ok (.aload_n 2, 1) := by decide +kernel
theorem dL_law_599 : decode cL_law 599 = .ok (.aload_n 0, 1) := by decide +kernel
theorem dL_law_600 : decode cL_law 600 = .ok (.iload 4, 2) := by decide +kernel
theorem dL_law_602 : decode cL_law 602 = .ok (.iconst 1, 1) := by decide +kernel
theorem dL_law_603 : decode cL_law 603 = .ok (.iadd, 1) := by decide +kernel
theorem dL_law_604 : decode cL_law 604 = .ok (.iaload, 1) := by decide +kernel
theorem dL_law_605 : decode cL_law 605 = .ok (.aload_n 0, 1) := by decide +kernel
theorem dL_law_606 : decode cL_law 606 = .ok (.iload 4, 2) := by decide +kernel
theorem dL_law_608 : decode cL_law 608 = .ok (.iconst 2, 1) := by decide +kernel
theorem dL_law_609 : decode cL_law 609 = .ok (.iadd, 1) := by decide +kernel
theorem dL_law_610 : decode cL_law 610 = .ok (.iaload, 1) := by decide +kernel
theorem dL_law_611 : decode cL_law 611 = .ok (.aload_n 0, 1) := by decide +kernel
theorem dL_law_612 : decode cL_law 612 = .ok (.iload 4, 2) := by decide +kernel
theorem dL_law_614 : decode cL_law 614 = .ok (.iconst 3, 1) := by decide +kernel
theorem dL_law_615 : decode cL_law 615 = .ok (.iadd, 1) := by decide +kernel
theorem dL_law_616 : decode cL_law 616 = .ok (.iaload, 1) := by decide +kernel
theorem dL_law_617 : decode cL_law 617 = .ok (.invokevirtual 94, 3) := by decide +kernel
theorem dL_law_620 : decode cL_law 620 = .ok (.istore 6, 2) := by decide +kernel
theorem dL_law_622 : decode cL_law 622 = .ok (.aload_n 2, 1) := by decide +kernel
theorem dL_law_623 : decode cL_law 623 = .ok (.invokevirtual 62, 3) := by decide +kernel
theorem dL_law_626 : decode cL_law 626 = .ok (.iload 5, 2) := by decide +kernel
theorem dL_law_628 : decode cL_law 628 = .ok (.if_icmp .eq 5, 3) := by decide +kernel
theorem dL_law_631 : decode cL_law 631 = .ok (.iconst 0, 1) := by decide +kernel
theorem dL_law_632 : decode cL_law 632 = .ok (.ireturn, 1) := by decide +kernel
theorem dL_law_633 : decode cL_law 633 = .ok (.iload 5, 2) := by decide +kernel
theorem dL_law_635 : decode cL_law 635 = .ok (.ifCond .ne 15, 3) := by decide +kernel
theorem dL_law_638 : decode cL_law 638 = .ok (.aload_n 3, 1) := by decide +kernel
theorem dL_law_639 : decode cL_law 639 = .ok (.iconst 0, 1) := by decide +kernel
theorem dL_law_640 : decode cL_law 640 = .ok (.laload, 1) := by decide +kernel
theorem dL_law_641 : decode cL_law 641 = .ok (.iload 6, 2) := by decide +kernel
theorem dL_law_643 : decode cL_law 643 = .ok (.i2l, 1) := by decide +kernel
theorem dL_law_644 : decode cL_law 644 = .ok (.lcmp, 1) := by decide +kernel
theorem dL_law_645 : decode cL_law 645 = .ok (.ifCond .eq 5, 3) := by decide +kernel
theorem dL_law_648 : decode cL_law 648 = .ok (.iconst 0, 1) := by decide +kernel
theorem dL_law_649 : decode cL_law 649 = .ok (.ireturn, 1) := by decide +kernel
theorem dL_law_650 : decode cL_law 650 = .ok (.goto 176, 3) := by decide +kernel
theorem dL_law_653 : decode cL_law 653 = .ok (.aload_n 1, 1) := by decide +kernel
theorem dL_law_654 : decode cL_law 654 = .ok (.aload_n 0, 1) := by decide +kernel
theorem dL_law_655 : decode cL_law 655 = .ok (.iload 4, 2) := by decide +kernel
theorem dL_law_657 : decode cL_law 657 = .ok (.iconst 1, 1) := by decide +kernel
theorem dL_law_658 : decode cL_law 658 = .ok (.iadd, 1) := by decide +kernel
theorem dL_law_659 : decode cL_law 659 = .ok (.iaload, 1) := by decide +kernel
theorem dL_law_660 : decode cL_law 660 = .ok (.aload_n 0, 1) := by decide +kernel
theorem dL_law_661 : decode cL_law 661 = .ok (.iload 4, 2) := by decide +kernel
theorem dL_law_663 : decode cL_law 663 = .ok (.iconst 2, 1) := by decide +kernel
theorem dL_law_664 : decode cL_law 664 = .ok (.iadd, 1) := by decide +kernel
theorem dL_law_665 : decode cL_law 665 = .ok (.iaload, 1) := by decide +kernel
theorem dL_law_666 : decode cL_law 666 = .ok (.aload_n 0, 1) := by decide +kernel
theorem dL_law_667 : decode cL_law 667 = .ok (.iload 4, 2) := by decide +kernel
theorem dL_law_669 : decode cL_law 669 = .ok (.iconst 3, 1) := by decide +kernel
theorem dL_law_670 : decode cL_law 670 = .ok (.iadd, 1) := by decide +kernel
theorem dL_law_671 : decode cL_law 671 = .ok (.iaload, 1) := by decide +kernel
theorem dL_law_672 : decode cL_law 672 = .ok (.aload_n 3, 1) := by decide +kernel
theorem dL_law_673 : decode cL_law 673 = .ok (.invokestatic 95, 3) := by decide +kernel
theorem dL_law_676 : decode cL_law 676 = .ok (.istore 5, 2) := by decide +kernel
theorem dL_law_678 : decode cL_law 678 = .ok (.aload_n 2, 1) := by decide +kernel
theorem dL_law_679 : decode cL_law 679 = .ok (.aload_n 0, 1) := by decide +kernel
theorem dL_law_680 : decode cL_law 680 = .ok (.iload 4, 2) := by decide +kernel
theorem dL_law_682 : decode cL_law 682 = .ok (.iconst 1, 1) := by decide +kernel
theorem dL_law_683 : decode cL_law 683 = .ok (.iadd, 1) := by decide +kernel
theorem dL_law_684 : decode cL_law 684 = .ok (.iaload, 1) := by decide +kernel
theorem dL_law_685 : decode cL_law 685 = .ok (.aload_n 0, 1) := by decide +kernel
theorem dL_law_686 : decode cL_law 686 = .ok (.iload 4, 2) := by decide +kernel
theorem dL_law_688 : decode cL_law 688 = .ok (.iconst 2, 1) := by decide +kernel
theorem dL_law_689 : decode cL_law 689 = .ok (.iadd, 1) := by decide +kernel
theorem dL_law_690 : decode cL_law 690 = .ok (.iaload, 1) := by decide +kernel
theorem dL_law_691 : decode cL_law 691 = .ok (.aload_n 0, 1) := by decide +kernel
theorem dL_law_692 : decode cL_law 692 = .ok (.iload 4, 2) := by decide +kernel
theorem dL_law_694 : decode cL_law 694 = .ok (.iconst 3, 1) := by decide +kernel
theorem dL_law_695 : decode cL_law 695 = .ok (.iadd, 1) := by decide +kernel
theorem dL_law_696 : decode cL_law 696 = .ok (.iaload, 1) := by decide +kernel
theorem dL_law_697 : decode cL_law 697 = .ok (.invokevirtual 97, 3) := by decide +kernel
theorem dL_law_700 : decode cL_law 700 = .ok (.istore 6, 2) := by decide +kernel
theorem dL_law_702 : decode cL_law 702 = .ok (.aload_n 2, 1) := by decide +kernel
theorem dL_law_703 : decode cL_law 703 = .ok (.invokevirtual 62, 3) := by decide +kernel
theorem dL_law_706 : decode cL_law 706 = .ok (.iload 5, 2) := by decide +kernel
theorem dL_law_708 : decode cL_law 708 = .ok (.if_icmp .eq 5, 3) := by decide +kernel
theorem dL_law_711 : decode cL_law 711 = .ok (.iconst 0, 1) := by decide +kernel
theorem dL_law_712 : decode cL_law 712 = .ok (.ireturn, 1) := by decide +kernel
theorem dL_law_713 : decode cL_law 713 = .ok (.iload 5, 2) := by decide +kernel
theorem dL_law_715 : decode cL_law 715 = .ok (.ifCond .ne 15, 3) := by decide +kernel
theorem dL_law_718 : decode cL_law 718 = .ok (.aload_n 3, 1) := by decide +kernel
theorem dL_law_719 : decode cL_law 719 = .ok (.iconst 0, 1) := by decide +kernel
theorem dL_law_720 : decode cL_law 720 = .ok (.laload, 1) := by decide +kernel
theorem dL_law_721 : decode cL_law 721 = .ok (.iload 6, 2) := by decide +kernel
theorem dL_law_723 : decode cL_law 723 = .ok (.i2l, 1) := by decide +kernel
theorem dL_law_724 : decode cL_law 724 = .ok (.lcmp, 1) := by decide +kernel
theorem dL_law_725 : decode cL_law 725 = .ok (.ifCond .eq 5, 3) := by decide +kernel
theorem dL_law_728 : decode cL_law 728 = .ok (.iconst 0, 1) := by decide +kernel
theorem dL_law_729 : decode cL_law 729 = .ok (.ireturn, 1) := by decide +kernel
theorem dL_law_730 : decode cL_law 730 = .ok (.goto 96, 3) := by decide +kernel
theorem dL_law_733 : decode cL_law 733 = .ok (.aload_n 1, 1) := by decide +kernel
theorem dL_law_734 : decode cL_law 734 = .ok (.aload_n 0, 1) := by decide +kernel
theorem dL_law_735 : decode cL_law 735 = .ok (.iload 4, 2) := by decide +kernel
theorem dL_law_737 : decode cL_law 737 = .ok (.iconst 1, 1) := by decide +kernel
theorem dL_law_738 : decode cL_law 738 = .ok (.iadd, 1) := by decide +kernel
theorem dL_law_739 : decode cL_law 739 = .ok (.iaload, 1) := by decide +kernel
theorem dL_law_740 : decode cL_law 740 = .ok (.aload_n 0, 1) := by decide +kernel
theorem dL_law_741 : decode cL_law 741 = .ok (.iload 4, 2) := by decide +kernel
theorem dL_law_743 : decode cL_law 743 = .ok (.iconst 2, 1) := by decide +kernel
theorem dL_law_744 : decode cL_law 744 = .ok (.iadd, 1) := by decide +kernel
theorem dL_law_745 : decode cL_law 745 = .ok (.iaload, 1) := by decide +kernel
theorem dL_law_746 : decode cL_law 746 = .ok (.aload_n 3, 1) := by decide +kernel
theorem dL_law_747 : decode cL_law 747 = .ok (.invokestatic 98, 3) := by decide +kernel
theorem dL_law_750 : decode cL_law 750 = .ok (.istore 5, 2) := by decide +kernel
theorem dL_law_752 : decode cL_law 752 = .ok (.aload_n 2, 1) := by decide +kernel
theorem dL_law_753 : decode cL_law 753 = .ok (.aload_n 0, 1) := by decide +kernel
theorem dL_law_754 : decode cL_law 754 = .ok (.iload 4, 2) := by decide +kernel
theorem dL_law_756 : decode cL_law 756 = .ok (.iconst 1, 1) := by decide +kernel
theorem dL_law_757 : decode cL_law 757 = .ok (.iadd, 1) := by decide +kernel
theorem dL_law_758 : decode cL_law 758 = .ok (.iaload, 1) := by decide +kernel
theorem dL_law_759 : decode cL_law 759 = .ok (.aload_n 0, 1) := by decide +kernel
theorem dL_law_760 : decode cL_law 760 = .ok (.iload 4, 2) := by decide +kernel
theorem dL_law_762 : decode cL_law 762 = .ok (.iconst 2, 1) := by decide +kernel
theorem dL_law_763 : decode cL_law 763 = .ok (.iadd, 1) := by decide +kernel
theorem dL_law_764 : decode cL_law 764 = .ok (.iaload, 1) := by decide +kernel
theorem dL_law_765 : decode cL_law 765 = .ok (.invokevirtual 100, 3) := by decide +kernel
theorem dL_law_768 : decode cL_law 768 = .ok (.istore 6, 2) := by decide +kernel
theorem dL_law_770 : decode cL_law 770 = .ok (.aload_n 2, 1) := by decide +kernel
theorem dL_law_771 : decode cL_law 771 = .ok (.invokevirtual 62, 3) := by decide +kernel
theorem dL_law_774 : decode cL_law 774 = .ok (.iload 5, 2) := by decide +kernel
theorem dL_law_776 : decode cL_law 776 = .ok (.if_icmp .eq 5, 3) := by decide +kernel
theorem dL_law_779 : decode cL_law 779 = .ok (.iconst 0, 1) := by decide +kernel
theorem dL_law_780 : decode cL_law 780 = .ok (.ireturn, 1) := by decide +kernel
theorem dL_law_781 : decode cL_law 781 = .ok (.iload 5, 2) := by decide +kernel
theorem dL_law_783 : decode cL_law 783 = .ok (.ifCond .ne 15, 3) := by decide +kernel
theorem dL_law_786 : decode cL_law 786 = .ok (.aload_n 3, 1) := by decide +kernel
theorem dL_law_787 : decode cL_law 787 = .ok (.iconst 0, 1) := by decide +kernel
theorem dL_law_788 : decode cL_law 788 = .ok (.laload, 1) := by decide +kernel
theorem dL_law_789 : decode cL_law 789 = .ok (.iload 6, 2) := by decide +kernel
theorem dL_law_791 : decode cL_law 791 = .ok (.i2l, 1) := by decide +kernel
theorem dL_law_792 : decode cL_law 792 = .ok (.lcmp, 1) := by decide +kernel
theorem dL_law_793 : decode cL_law 793 = .ok (.ifCond .eq 5, 3) := by decide +kernel
theorem dL_law_796 : decode cL_law 796 = .ok (.iconst 0, 1) := by decide +kernel
theorem dL_law_797 : decode cL_law 797 = .ok (.ireturn, 1) := by decide +kernel
theorem dL_law_798 : decode cL_law 798 = .ok (.goto 28, 3) := by decide +kernel
theorem dL_law_801 : decode cL_law 801 = .ok (.aload_n 1, 1) := by decide +kernel
theorem dL_law_802 : decode cL_law 802 = .ok (.aload_n 0, 1) := by decide +kernel
theorem dL_law_803 : decode cL_law 803 = .ok (.iload 4, 2) := by decide +kernel
theorem dL_law_805 : decode cL_law 805 = .ok (.iconst 1, 1) := by decide +kernel
theorem dL_law_806 : decode cL_law 806 = .ok (.iadd, 1) := by decide +kernel
theorem dL_law_807 : decode cL_law 807 = .ok (.iaload, 1) := by decide +kernel
theorem dL_law_808 : decode cL_law 808 = .ok (.invokevirtual 101, 3) := by decide +kernel
theorem dL_law_811 : decode cL_law 811 = .ok (.aload_n 2, 1) := by decide +kernel
theorem dL_law_812 : decode cL_law 812 = .ok (.aload_n 0, 1) := by decide +kernel
theorem dL_law_813 : decode cL_law 813 = .ok (.iload 4, 2) := by decide +kernel
theorem dL_law_815 : decode cL_law 815 = .ok (.iconst 1, 1) := by decide +kernel
theorem dL_law_816 : decode cL_law 816 = .ok (.iadd, 1) := by decide +kernel
theorem dL_law_817 : decode cL_law 817 = .ok (.iaload, 1) := by decide +kernel
theorem dL_law_818 : decode cL_law 818 = .ok (.invokevirtual 104, 3) := by decide +kernel
theorem dL_law_821 : decode cL_law 821 = .ok (.if_icmp .eq 5, 3) := by decide +kernel
theorem dL_law_824 : decode cL_law 824 = .ok (.iconst 0, 1) := by decide +kernel
theorem dL_law_825 : decode cL_law 825 = .ok (.ireturn, 1) := by decide +kernel
theorem dL_law_826 : decode cL_law 826 = .ok (.iinc 4 4, 3) := by decide +kernel
theorem dL_law_829 : decode cL_law 829 = .ok (.goto (-786), 3) := by decide +kernel
theorem dL_law_832 : decode cL_law 832 = .ok (.iconst 1, 1) := by decide +kernel
theorem dL_law_833 : decode cL_law 833 = .ok (.ireturn, 1) := by decide +kernel
end
section
/-! ===== my base: words of nest mates, contracts over one world, rows over it ===== -/
def rn_is (w : Cond) : Bool := match w with
  | .fieldLinkNest .. => true
  | .methodLinkNest .. => true
  | .declares .. => true
  | .castable .. => true
  | _ => false
def rn_names : List String := ["java/lang/RuntimeException", "java/lang/Exception"]
def rn_bad (ic : Nat) (E : String) : List Cond := (vx_at0 RX2 ic E rn_names).filter (fun w => !goodWord w)
def rn_C : List Cond := [.methodLinkNest RX2 19 yX0_init RX2, .fieldLinkNest RX2 111 "ReplicaHeap$Log" "places" "[I" RX2, .fieldLinkNest RX2 114 "ReplicaHeap$Log" "fields" "[I" RX2, .fieldLinkNest RX2 108 "ReplicaHeap$Log" "size" "I" RX2, .fieldLinkNest RX2 120 "ReplicaHeap$Log" "taken" "I" RX2, .methodLinkNest RX2 33 yX1_init RX2, .fieldLinkNest RX2 88 "ReplicaHeap$Space" "index" "I" RX2, .fieldLinkNest RX2 95 "ReplicaHeap$Space" "kinds" "[I" RX2, .fieldLinkNest RX2 98 "ReplicaHeap$Space" "values" "[I" RX2, .fieldLinkNest RX2 105 "ReplicaHeap$Space" "replicas" "[I" RX2, .fieldLinkNest RX2 78 "ReplicaHeap$Space" "used" "I" RX2, .methodLinkNest RX2 57 yX1_hasRoom RX2, .methodLinkNest RX2 135 yX1_setCell RX2, .methodLinkNest RX2 167 yX0_clear RX2, .methodLinkNest RX2 60 yX1_layObject RX2, .methodLinkNest RX2 139 yX0_add RX2] ++ (rn_bad 49 "java/lang/IllegalArgumentException" ++ (rn_bad 87 "java/lang/IllegalStateException" ++ rn_bad 104 "java/lang/IndexOutOfBoundsException"))
theorem rn_C_is : ∀ w ∈ rn_C, rn_is w = true := by decide +kernel
/-- the words of nest mates hold -/
def rn (L : List Cond) (U : State) : Prop := (∀ w ∈ L, rn_is w = true) ∧ ∀ w ∈ L, va_Nw w U
theorem rn.warm {L : List Cond} {s U : State} (hW : s.WarmedH U.vm) (h : rn L s) : rn L U := by
  refine ⟨h.1, fun w hw => ?_⟩
  have h1 := h.1 w hw
  have h2 := h.2 w hw
  unfold rn_is at h1
  split at h1
  · exact va_Nw.warmF hW h2
  · exact va_Nw.warmM hW h2
  · exact va_Nw.warmD hW h2
  · exact va_Nw.warmC hW h2
  · cases h1
theorem rn.same {L : List Cond} {u U : State} (hv : u.vm = U.vm) (h : rn L u) : rn L U := by
  refine ⟨h.1, fun w hw => ?_⟩
  have h1 := h.1 w hw
  have h2 := h.2 w hw
  unfold rn_is at h1
  split at h1
  · exact va_Nw.same rfl hv h2
  · exact va_Nw.same rfl hv h2
  · exact va_Nw.same rfl hv h2
  · exact va_Nw.same rfl hv h2
  · cases h1
/-- what is fixed in a method's walk -/
def rh_X (p : Program) (s : State) (m : MethodId) (args : Array Value) (c : Code) (cc : ByteArray) (nL : Nat) (own : String) (Ts : List Cond) (G : va_G) (tys : List (ClassId × FieldType)) (L : List Cond) (A : Nat → Prop) : Prop :=
  p.tables.exec = Jvm.exec ∧ c.code = cc ∧ c.maxLocals = nL ∧ s.vm.findClass own = some m.cls ∧ (∀ w ∈ Ts, w.before args s = true) ∧ va_K G vwCl tys s ∧ rn L s ∧ ∀ q : Nat, s.heap.size ≤ q → A q
/-- the world, as it stands -/
def rh_W (G : va_G) (A : Nat → Prop) (s : State) (H : Heap) (locs : List Loc) (w : va_W) : Prop := va_P G vwCl w H ∧ va_D A w ∧ va_S A s.heap H locs
/-- a contract's start over a world w, and its ends -/
def rh_Pre (G : va_G) (tys : List (ClassId × FieldType)) (L : List Cond) (w : va_W) (sz : Nat) (av : List Value) : Array Value → State → Prop := va_Pc av (fun U => U.heap.size = sz ∧ va_P G vwCl w U.heap ∧ va_K G vwCl tys U ∧ va_D (fun _ => True) w ∧ rn L U)
def rh_At (G : va_G) (tys : List (ClassId × FieldType)) (A : Nat → Prop) (w : va_W) (t : State) : Prop := va_P G vwCl w t.heap ∧ va_K G vwCl tys t ∧ va_D A w
def rh_Qi (G : va_G) (tys : List (ClassId × FieldType)) (w : va_W) (sz : Nat) (r : Int32) (w' : va_W) : Array Value → State → Outcome → State → Prop := va_Qi (S := Unit) (fun r1 _ => r1 = r) (fun _ t => rh_At G tys (va_A w sz) w' t) (va_A w sz)
def rh_Qv (G : va_G) (tys : List (ClassId × FieldType)) (w : va_W) (sz : Nat) (w' : va_W) : Array Value → State → Outcome → State → Prop := va_Qv (S := Unit) (fun _ => True) (fun _ t => rh_At G tys (va_A w sz) w' t) (va_A w sz)
/-- a method that answers an int, changes the world w to w', makes nothing -/
def rh_Mi (l : Launch) (y : MethodName) (ws : List Cond) (rm : Room) (G : va_G) (tys : List (ClassId × FieldType)) (L : List Cond) (w : va_W) (av : List Value) (r : Int32) (w' : va_W) : Prop := ∀ sz : Nat, Met l y ws rm (rh_Pre G tys L w sz av) (rh_Qi G tys w sz r w') 0 0 (va_A w sz)
def rh_Mv (l : Launch) (y : MethodName) (ws : List Cond) (rm : Room) (G : va_G) (tys : List (ClassId × FieldType)) (L : List Cond) (w : va_W) (av : List Value) (w' : va_W) : Prop := ∀ sz : Nat, Met l y ws rm (rh_Pre G tys L w sz av) (rh_Qv G tys w sz w') 0 0 (va_A w sz)
theorem rh_blind {G : va_G} {tys : List (ClassId × FieldType)} {L : List Cond} {w : va_W} {sz : Nat} {av : List Value} : FrameBlind (rh_Pre G tys L w sz av) := by
  intro a U g mk q
  obtain ⟨q0, q1, qP, qK, qD, qN⟩ := q
  exact ⟨q0, q1, qP, va_K.moved (u := U) (U := U.calling g mk a) (Vm.Alike.refl U.vm) qK, qD, rn.same (u := U) (U := U.calling g mk a) rfl qN⟩
theorem rh_free {G : va_G} {A : Nat → Prop} {s : State} {H : Heap} {locs : List Loc} {w : va_W} (hA : ∀ q : Nat, s.heap.size ≤ q → A q) (h : rh_W G A s H locs w) : ∀ q, va_A w H.size q → A q := by
  intro q hq
  rcases hq with ⟨k, e, hk⟩ | hq
  · exact h.2.1.2 k _ hk
  · exact hA q (Nat.le_trans h.2.2.1 hq)
theorem rh_start {G : va_G} {tys : List (ClassId × FieldType)} {L : List Cond} {A : Nat → Prop} {s : State} {H : Heap} {locs : List Loc} {w : va_W} {av : List Value} {p : Program} {m : MethodId} {args : Array Value} {c : Code} {cc : ByteArray} {nL : Nat} {own : String} {Ts : List Cond} (X : rh_X p s m args c cc nL own Ts G tys L A) (h : rh_W G A s H locs w) : ∀ U : State, U.heap = H → s.WarmedH U.vm → rh_Pre G tys L w H.size av av.toArray U := by
  intro U hU hW
  exact ⟨rfl, by rw [hU], by rw [hU]; exact h.1, va_K.moved hW.alike X.2.2.2.2.2.1, h.2.1.weaken (fun _ _ _ _ => trivial), rn.warm hW X.2.2.2.2.2.2.1⟩
section RHC
variable {p : Program} {l : Launch} {e : Env} {R : Room} {s : State} {m : MethodId} {args : Array Value} {below : List Frame} {meth : Method} {c : Code} {H : Heap} {locs : List Loc} {cells slots : Nat} {Q : State → Prop}
variable {cc : ByteArray} {nL : Nat} {own : String} {Ts : List Cond} {G : va_G} {tys : List (ClassId × FieldType)} {L : List Cond} {A : Nat → Prop} {w w' : va_W}
variable {y : MethodName} {bytes : ByteArray} {maxL n index pc : Nat} {ret : Option FieldType} {ws : List Cond} {rm : Room} {C host : String} {b : Addr} {As rest st0 : List Value} {ls : Array Slot} {r : Int32}
theorem rh_back_i (X : rh_X p s m args c cc nL own Ts G tys L A) (h : rh_W G A s H locs w) {a : Array Value} (hr : va_Run p l e R s m args below meth c H locs cells slots 0 0 (F0 m pc ls st0) rest (rh_Qi G tys w H.size r w' a) (va_A w H.size))
    (kk : ∀ (H1 : Heap) (locs1 : List Loc), rh_W G A s H1 locs1 w' → W p l e R s m args below meth c H1 locs1 cells slots Q (F0 m (pc + 3) ls (.int r :: rest))) : W p l e R s m args below meth c H locs cells slots Q (F0 m pc ls st0) := by
  have hF := rh_free X.2.2.2.2.2.2.2 h
  refine va_calli hr h.2.2 (fun q _ hq => hF q hq) hF (fun r1 u t H1 locs1 ht hvm hw hB hz hk hS => ?_)
  subst hw
  obtain ⟨hP1, hK1, hD1⟩ := hB
  exact kk H1 locs1 ⟨by rw [← ht]; exact hP1, hD1.weaken (fun _ _ _ hq => hF _ hq), hS⟩
theorem rh_back_v (X : rh_X p s m args c cc nL own Ts G tys L A) (h : rh_W G A s H locs w) {a : Array Value} (hr : va_Run p l e R s m args below meth c H locs cells slots 0 0 (F0 m pc ls st0) rest (rh_Qv G tys w H.size w' a) (va_A w H.size))
    (kk : ∀ (H1 : Heap) (locs1 : List Loc), rh_W G A s H1 locs1 w' → W p l e R s m args below meth c H1 locs1 cells slots Q (F0 m (pc + 3) ls rest)) : W p l e R s m args below meth c H locs cells slots Q (F0 m pc ls st0) := by
  have hF := rh_free X.2.2.2.2.2.2.2 h
  refine va_callv hr h.2.2 (fun q _ hq => hF q hq) hF (fun u t H1 locs1 ht hvm hw hB hz hk hS => ?_)
  obtain ⟨hP1, hK1, hD1⟩ := hB
  exact kk H1 locs1 ⟨by rw [← ht]; exact hP1, hD1.weaken (fun _ _ _ hq => hF _ hq), hS⟩
/-- invokevirtual -/
theorem rh_Vi (X : rh_X p s m args c cc nL own Ts G tys L A) (h : rh_W G A s H locs w) (hM : rh_Mi l y ws rm G tys L w (.ref b :: As) r w') (cw : CallW R s args own C index y bytes maxL ret ws rm 0 0 n) (hrec : ∃ cellB : Cell, H[b]? = some cellB ∧ cellB.vm.isStatics = false ∧ s.vm.findClass C = some cellB.cls)
    (hn : As.length = n) (hl : ls.size = nL) (hst : st0 = As.reverse ++ .ref b :: rest) (hro : (rest.map fun v => v.category).sum ≤ 8) (hdg : decode cc pc = .ok (.invokevirtual index, 3)) (hf : cells + 0 ≤ R.cells ∧ slots + 0 ≤ R.slots)
    (kk : ∀ (H1 : Heap) (locs1 : List Loc), rh_W G A s H1 locs1 w' → W p l e R s m args below meth c H1 locs1 cells slots Q (F0 m (pc + 3) ls (.int r :: rest))) : W p l e R s m args below meth c H locs cells slots Q (F0 m pc ls st0) := by
  subst hst
  exact rh_back_i X h (va_runV ⟨X.1, X.2.1, X.2.2.1, X.2.2.2.1, X.2.2.2.2.1⟩ (hM H.size) cw ⟨rh_blind, hrec, rh_start X h⟩ rfl hn hl rfl (lv_room hro) hdg hf) kk
theorem rh_Vv (X : rh_X p s m args c cc nL own Ts G tys L A) (h : rh_W G A s H locs w) (hM : rh_Mv l y ws rm G tys L w (.ref b :: As) w') (cw : CallW R s args own C index y bytes maxL ret ws rm 0 0 n) (hrec : ∃ cellB : Cell, H[b]? = some cellB ∧ cellB.vm.isStatics = false ∧ s.vm.findClass C = some cellB.cls)
    (hn : As.length = n) (hl : ls.size = nL) (hst : st0 = As.reverse ++ .ref b :: rest) (hro : (rest.map fun v => v.category).sum ≤ 8) (hdg : decode cc pc = .ok (.invokevirtual index, 3)) (hf : cells + 0 ≤ R.cells ∧ slots + 0 ≤ R.slots)
    (kk : ∀ (H1 : Heap) (locs1 : List Loc), rh_W G A s H1 locs1 w' → W p l e R s m args below meth c H1 locs1 cells slots Q (F0 m (pc + 3) ls rest)) : W p l e R s m args below meth c H locs cells slots Q (F0 m pc ls st0) := by
  subst hst
  exact rh_back_v X h (va_runV ⟨X.1, X.2.1, X.2.2.1, X.2.2.2.1, X.2.2.2.2.1⟩ (hM H.size) cw ⟨rh_blind, hrec, rh_start X h⟩ rfl hn hl rfl (lv_room hro) hdg hf) kk
/-- invokevirtual of a nest mate's private method -/
theorem rh_Ni (X : rh_X p s m args c cc nL own Ts G tys L A) (h : rh_W G A s H locs w) (hM : rh_Mi l y ws rm G tys L w (.ref b :: As) r w') (cw : va_CN R s args own index y host bytes maxL ret ws rm 0 0 n ∧ (Cond.instanceMethod y).before args s = true ∧ (Cond.selects C y y).before args s = true) (hrec : ∃ cellB : Cell, H[b]? = some cellB ∧ cellB.vm.isStatics = false ∧ s.vm.findClass C = some cellB.cls)
    (hn : As.length = n) (hl : ls.size = nL) (hst : st0 = As.reverse ++ .ref b :: rest) (hro : (rest.map fun v => v.category).sum ≤ 8) (hdg : decode cc pc = .ok (.invokevirtual index, 3)) (hf : cells + 0 ≤ R.cells ∧ slots + 0 ≤ R.slots)
    (kk : ∀ (H1 : Heap) (locs1 : List Loc), rh_W G A s H1 locs1 w' → W p l e R s m args below meth c H1 locs1 cells slots Q (F0 m (pc + 3) ls (.int r :: rest))) : W p l e R s m args below meth c H locs cells slots Q (F0 m pc ls st0) := by
  subst hst
  exact rh_back_i X h (va_runVN ⟨X.1, X.2.1, X.2.2.1, X.2.2.2.1, X.2.2.2.2.1⟩ (hM H.size) cw ⟨rh_blind, hrec, rh_start X h⟩ rfl hn hl rfl (lv_room hro) hdg hf) kk
theorem rh_Nv (X : rh_X p s m args c cc nL own Ts G tys L A) (h : rh_W G A s H locs w) (hM : rh_Mv l y ws rm G tys L w (.ref b :: As) w') (cw : va_CN R s args own index y host bytes maxL ret ws rm 0 0 n ∧ (Cond.instanceMethod y).before args s = true ∧ (Cond.selects C y y).before args s = true) (hrec : ∃ cellB : Cell, H[b]? = some cellB ∧ cellB.vm.isStatics = false ∧ s.vm.findClass C = some cellB.cls)
    (hn : As.length = n) (hl : ls.size = nL) (hst : st0 = As.reverse ++ .ref b :: rest) (hro : (rest.map fun v => v.category).sum ≤ 8) (hdg : decode cc pc = .ok (.invokevirtual index, 3)) (hf : cells + 0 ≤ R.cells ∧ slots + 0 ≤ R.slots)
    (kk : ∀ (H1 : Heap) (locs1 : List Loc), rh_W G A s H1 locs1 w' → W p l e R s m args below meth c H1 locs1 cells slots Q (F0 m (pc + 3) ls rest)) : W p l e R s m args below meth c H locs cells slots Q (F0 m pc ls st0) := by
  subst hst
  exact rh_back_v X h (va_runVN ⟨X.1, X.2.1, X.2.2.1, X.2.2.2.1, X.2.2.2.2.1⟩ (hM H.size) cw ⟨rh_blind, hrec, rh_start X h⟩ rfl hn hl rfl (lv_room hro) hdg hf) kk
/-- invokestatic -/
theorem rh_Si (X : rh_X p s m args c cc nL own Ts G tys L A) (h : rh_W G A s H locs w) (hM : rh_Mi l y ws rm G tys L w As r w') (cw : CallB R s args own index y bytes maxL ret ws rm 0 0 n ∧ (Cond.static y).before args s = true)
    (hn : As.length = n) (hl : ls.size = nL) (hst : st0 = As.reverse ++ rest) (hro : (rest.map fun v => v.category).sum ≤ 8) (hdg : decode cc pc = .ok (.invokestatic index, 3)) (hf : cells + 0 ≤ R.cells ∧ slots + 0 ≤ R.slots)
    (kk : ∀ (H1 : Heap) (locs1 : List Loc), rh_W G A s H1 locs1 w' → W p l e R s m args below meth c H1 locs1 cells slots Q (F0 m (pc + 3) ls (.int r :: rest))) : W p l e R s m args below meth c H locs cells slots Q (F0 m pc ls st0) := by
  subst hst
  exact rh_back_i X h (va_runS ⟨X.1, X.2.1, X.2.2.1, X.2.2.2.1, X.2.2.2.2.1⟩ (hM H.size) cw ⟨rh_blind, rh_start X h⟩ rfl hn hl rfl (lv_room hro) hdg hf) kk
/-- getfield, of the own class and of a nest mate -/
theorem rh_get (X : rh_X p s m args c cc nL own Ts G tys L A) (h : rh_W G A s H locs w) {C : String} {T : u_T} {N ci : Nat} (hin : ∀ w ∈ u_ws C T N, w ∈ Ts) (q0 k : Nat) {a : Nat} {fs : List Value} (he : w[q0]? = some (a, .inr (ci, fs))) (hc : vwCl[ci]? = some (C, T, N)) (hk : k < N) (hlk : Cond.fieldLink own index (T k).1 (T k).2.1 (T k).2.2.1 ∈ Ts) {v : Value} (hv : fs[k]? = some v) (hdg : decode cc pc = .ok (.getfield index, 3))
    (kk : W p l e R s m args below meth c H locs cells slots Q (F0 m (pc + 3) ls (v :: rest))) : W p l e R s m args below meth c H locs cells slots Q (F0 m pc ls (.ref a :: rest)) :=
  va_get X.1 X.2.1 X.2.2.2.2.1 hin X.2.2.2.1 X.2.2.2.2.2.1 h.1 q0 he hc k hk (X.2.2.2.2.1 _ hlk) (fun _ h9 => h9) hv hdg kk
theorem rh_getN (X : rh_X p s m args c cc nL own Ts G tys L A) (h : rh_W G A s H locs w) {C : String} {T : u_T} {N ci : Nat} (hin : ∀ w ∈ u_ws C T N, w ∈ Ts) (q0 k : Nat) {a : Nat} {fs : List Value} (he : w[q0]? = some (a, .inr (ci, fs))) (hc : vwCl[ci]? = some (C, T, N)) (hk : k < N) (hlk : Cond.fieldLinkNest own index (T k).1 (T k).2.1 (T k).2.2.1 host ∈ L) {v : Value} (hv : fs[k]? = some v) (hdg : decode cc pc = .ok (.getfield index, 3))
    (kk : W p l e R s m args below meth c H locs cells slots Q (F0 m (pc + 3) ls (v :: rest))) : W p l e R s m args below meth c H locs cells slots Q (F0 m pc ls (.ref a :: rest)) :=
  va_getN X.1 X.2.1 X.2.2.2.2.1 hin X.2.2.2.1 X.2.2.2.2.2.1 h.1 q0 he hc k hk (va_Nw.use rfl (X.2.2.2.2.2.2.1.2 _ hlk)) (fun _ h9 => h9) hv hdg kk
theorem rh_put (X : rh_X p s m args c cc nL own Ts G tys L A) (h : rh_W G A s H locs w) {C : String} {T : u_T} {N ci : Nat} (hin : ∀ w ∈ u_ws C T N, w ∈ Ts) (ty0 : Nat → FieldType) (hty : ∀ k, k < N → parseFieldDescriptor (T k).2.2.1 = some (ty0 k)) (hnm : ∀ a, a < N → ∀ b, b < N → a ≠ b → (T a).2.1 ≠ (T b).2.1) (q0 k : Nat) {a : Nat} {fs : List Value} (he : w[q0]? = some (a, .inr (ci, fs))) (hc : vwCl[ci]? = some (C, T, N)) (hk : k < N) (hlk : Cond.fieldLink own index (T k).1 (T k).2.1 (T k).2.2.1 ∈ Ts) (hfin : (T k).2.2.2 = false) {v : Value} (hnv : narrow (ty0 k) v = v) (hfit : fits (ty0 k) v = true) (hlf : k < fs.length) (hdg : decode cc pc = .ok (.putfield index, 3))
    (kk : ∀ (H1 : Heap) (locs1 : List Loc), rh_W G A s H1 locs1 (w.set q0 (a, .inr (ci, fs.set k v))) → W p l e R s m args below meth c H1 locs1 cells slots Q (F0 m (pc + 3) ls rest)) : W p l e R s m args below meth c H locs cells slots Q (F0 m pc ls (v :: .ref a :: rest)) :=
  va_put X.1 X.2.1 X.2.2.2.2.1 hin ty0 hty hnm X.2.2.2.1 X.2.2.2.2.2.1 h.1 h.2.1 h.2.2 q0 he hc k hk (X.2.2.2.2.1 _ hlk) (fun _ h9 => h9) hfin (hty k hk) hnv hfit hlf hdg (fun H1 locs1 a1 a2 a3 => kk H1 locs1 ⟨a1, a2, a3⟩)
theorem rh_putN (X : rh_X p s m args c cc nL own Ts G tys L A) (h : rh_W G A s H locs w) {C : String} {T : u_T} {N ci : Nat} (hin : ∀ w ∈ u_ws C T N, w ∈ Ts) (ty0 : Nat → FieldType) (hty : ∀ k, k < N → parseFieldDescriptor (T k).2.2.1 = some (ty0 k)) (hnm : ∀ a, a < N → ∀ b, b < N → a ≠ b → (T a).2.1 ≠ (T b).2.1) (q0 k : Nat) {a : Nat} {fs : List Value} (he : w[q0]? = some (a, .inr (ci, fs))) (hc : vwCl[ci]? = some (C, T, N)) (hk : k < N) (hlk : Cond.fieldLinkNest own index (T k).1 (T k).2.1 (T k).2.2.1 host ∈ L) (hfin : (T k).2.2.2 = false) {v : Value} (hnv : narrow (ty0 k) v = v) (hfit : fits (ty0 k) v = true) (hlf : k < fs.length) (hdg : decode cc pc = .ok (.putfield index, 3))
    (kk : ∀ (H1 : Heap) (locs1 : List Loc), rh_W G A s H1 locs1 (w.set q0 (a, .inr (ci, fs.set k v))) → W p l e R s m args below meth c H1 locs1 cells slots Q (F0 m (pc + 3) ls rest)) : W p l e R s m args below meth c H locs cells slots Q (F0 m pc ls (v :: .ref a :: rest)) :=
  va_putN X.1 X.2.1 X.2.2.2.2.1 hin ty0 hty hnm X.2.2.2.1 X.2.2.2.2.2.1 h.1 h.2.1 h.2.2 q0 he hc k hk (va_Nw.use rfl (X.2.2.2.2.2.2.1.2 _ hlk)) (fun _ h9 => h9) hfin (hty k hk) hnv hfit hlf hdg (fun H1 locs1 a1 a2 a3 => kk H1 locs1 ⟨a1, a2, a3⟩)
/-- arrays of ints and of booleans -/
theorem rh_iald (X : rh_X p s m args c cc nL own Ts G tys L A) (h : rh_W G A s H locs w) (q0 t0 : Nat) {a : Nat} {cA : ClassId} {n : Nat} {f : Nat → Int32} (ha : w[q0]? = some (a, .inl (cA, n, .inl f))) (ht : tys[t0]? = some (cA, .int)) {i v : Int32} (hi : vp_in i n) (hv : v = f i.toNatClampNeg) (hdg : decode cc pc = .ok (.iaload, 1))
    (kk : W p l e R s m args below meth c H locs cells slots Q (F0 m (pc + 1) ls (.int v :: rest))) : W p l e R s m args below meth c H locs cells slots Q (F0 m pc ls (.int i :: .ref a :: rest)) := by
  subst hv
  exact va_iald X.1 X.2.1 X.2.2.2.2.2.1 h.1 q0 t0 ha ht hi hdg kk
theorem rh_zald (X : rh_X p s m args c cc nL own Ts G tys L A) (h : rh_W G A s H locs w) (q0 t0 : Nat) {a : Nat} {cA : ClassId} {n : Nat} {f : Nat → Int32} (ha : w[q0]? = some (a, .inl (cA, n, .inl f))) (ht : tys[t0]? = some (cA, .boolean)) {i v : Int32} (hi : vp_in i n) (hv : v = f i.toNatClampNeg) (hdg : decode cc pc = .ok (.baload, 1))
    (kk : W p l e R s m args below meth c H locs cells slots Q (F0 m (pc + 1) ls (.int v :: rest))) : W p l e R s m args below meth c H locs cells slots Q (F0 m pc ls (.int i :: .ref a :: rest)) := by
  subst hv
  exact va_zald X.1 X.2.1 X.2.2.2.2.2.1 h.1 q0 t0 ha ht hi hdg kk
theorem rh_iast (X : rh_X p s m args c cc nL own Ts G tys L A) (h : rh_W G A s H locs w) (q0 t0 : Nat) {a : Nat} {cA : ClassId} {n : Nat} {f : Nat → Int32} (ha : w[q0]? = some (a, .inl (cA, n, .inl f))) (ht : tys[t0]? = some (cA, .int)) {i x : Int32} (hi : vp_in i n) (hdg : decode cc pc = .ok (.iastore, 1))
    (kk : ∀ (H1 : Heap) (locs1 : List Loc), rh_W G A s H1 locs1 (w.set q0 (a, .inl (cA, n, .inl (upd f i.toNatClampNeg x)))) → W p l e R s m args below meth c H1 locs1 cells slots Q (F0 m (pc + 1) ls rest)) : W p l e R s m args below meth c H locs cells slots Q (F0 m pc ls (.int x :: .int i :: .ref a :: rest)) :=
  va_iast X.1 X.2.1 X.2.2.2.2.2.1 h.1 h.2.1 h.2.2 q0 t0 ha ht hi hdg (fun H1 locs1 a1 a2 a3 => kk H1 locs1 ⟨a1, a2, a3⟩)
theorem rh_zast (X : rh_X p s m args c cc nL own Ts G tys L A) (h : rh_W G A s H locs w) (q0 t0 : Nat) {a : Nat} {cA : ClassId} {n : Nat} {f : Nat → Int32} (ha : w[q0]? = some (a, .inl (cA, n, .inl f))) (ht : tys[t0]? = some (cA, .boolean)) {i x : Int32} (hi : vp_in i n) (hdg : decode cc pc = .ok (.bastore, 1))
    (kk : ∀ (H1 : Heap) (locs1 : List Loc), rh_W G A s H1 locs1 (w.set q0 (a, .inl (cA, n, .inl (upd f i.toNatClampNeg (vp_nar .boolean x))))) → W p l e R s m args below meth c H1 locs1 cells slots Q (F0 m (pc + 1) ls rest)) : W p l e R s m args below meth c H locs cells slots Q (F0 m pc ls (.int x :: .int i :: .ref a :: rest)) :=
  va_zast X.1 X.2.1 X.2.2.2.2.2.1 h.1 h.2.1 h.2.2 q0 t0 ha ht hi hdg (fun H1 locs1 a1 a2 a3 => kk H1 locs1 ⟨a1, a2, a3⟩)
theorem rh_alen (X : rh_X p s m args c cc nL own Ts G tys L A) (h : rh_W G A s H locs w) (q0 t0 : Nat) {a : Nat} {cA : ClassId} {n : Nat} {f : (Nat → Int32) ⊕ (Nat → Int64) ⊕ (Nat → UInt32) ⊕ (Nat → UInt64) ⊕ (Nat → Option Nat)} {ty : FieldType} (ha : w[q0]? = some (a, .inl (cA, n, f))) (ht : tys[t0]? = some (cA, ty)) (hdg : decode cc pc = .ok (.arraylength, 1))
    (kk : W p l e R s m args below meth c H locs cells slots Q (F0 m (pc + 1) ls (.int (nI n) :: rest))) : W p l e R s m args below meth c H locs cells slots Q (F0 m pc ls (.ref a :: rest)) :=
  va_alen X.1 X.2.1 X.2.2.2.2.2.1 h.1 q0 t0 ha ht rfl hdg kk
end RHC
/-- a contract out of a walk: the walk gets its return as a hypothesis -/
theorem rh_ofi {l : Launch} {y : MethodName} {ws ws' : List Cond} {rm : Room} {G : va_G} {tys : List (ClassId × FieldType)} {L : List Cond} {w w' : va_W} {av : List Value} {r : Int32} {cc : ByteArray} {maxL : Nat} {ty : FieldType} (hy : plainName y.cls = true) (hw : ws = Cond.code y cc maxL (some ty) :: ws') (hl : (lg_sl av).length ≤ maxL)
    (body : ∀ (p : Program) (e : Env) (s : State) (m : MethodId) (below : List Frame) (meth : Method) (c : Code) (A : Nat → Prop) (Q : State → Prop), rh_X p s m av.toArray c cc maxL y.cls ws G tys L A →
      (∀ (H : Heap) (locs : List Loc) (ls : Array Slot) (pc : Nat), narrow ty (.int r) = .int r → decode cc pc = .ok (.ireturn, 1) → rh_W G A s H locs w' → W p l e rm s m av.toArray below meth c H locs 0 0 Q (F0 m pc ls [.int r])) →
      ∀ (ls : Array Slot), lv_has ls maxL (lv_args 0 av) → rh_W G A s s.heap [] w → W p l e rm s m av.toArray below meth c s.heap [] 0 0 Q (F0 m 0 ls [])) : rh_Mi l y ws rm G tys L w av r w' := by
  intro sz
  refine Met.ofW (cc := cc) (maxL := maxL) (ret := some ty) hy hw ?_
  intro p e s m args below meth c s₁ B hml hv
  obtain ⟨rfl, hsz, hP, hK, hD0, hN⟩ := hv
  have hx := B.exec
  have hb := B.bytes
  have hr := B.returns
  have hts := atoms_spec (ws := ws) B.pre
  have hown : s.vm.findClass y.cls = some m.cls := findClass_of_methodNamed B.named
  have hlocks := B.notSynchronized
  subst hsz
  have hD := hD0.self (sz := s.heap.size)
  have hl9 := lv_entry av (n := maxL) hl
  rw [lg_entry_eq]
  refine body p e s m below meth c (va_A w s.heap.size) _ ⟨hx, hb, hml, hown, hts, hK, hN, fun q h => Or.inr h⟩ ?_ _ hl9 ⟨hP, hD, va_S.rf⟩
  intro H locs ls pc hn hd h
  exact W.zret (v := r) hx hb hr hn (fun t ht hW => ⟨⟨r, (), rfl, rfl, by rw [ht]; exact h.1, va_K.moved hW.alike hK, h.2.1⟩, h.2.2.F ht⟩) h.2.2.2.2 hd
theorem rh_ofv {l : Launch} {y : MethodName} {ws ws' : List Cond} {rm : Room} {G : va_G} {tys : List (ClassId × FieldType)} {L : List Cond} {w w' : va_W} {av : List Value} {cc : ByteArray} {maxL : Nat} (hy : plainName y.cls = true) (hw : ws = Cond.code y cc maxL none :: ws') (hl : (lg_sl av).length ≤ maxL)
    (body : ∀ (p : Program) (e : Env) (s : State) (m : MethodId) (below : List Frame) (meth : Method) (c : Code) (A : Nat → Prop) (Q : State → Prop), rh_X p s m av.toArray c cc maxL y.cls ws G tys L A →
      (∀ (H : Heap) (locs : List Loc) (ls : Array Slot) (pc : Nat), decode cc pc = .ok (.return_, 1) → rh_W G A s H locs w' → W p l e rm s m av.toArray below meth c H locs 0 0 Q (F0 m pc ls [])) →
      ∀ (ls : Array Slot), lv_has ls maxL (lv_args 0 av) → rh_W G A s s.heap [] w → W p l e rm s m av.toArray below meth c s.heap [] 0 0 Q (F0 m 0 ls [])) : rh_Mv l y ws rm G tys L w av w' := by
  intro sz
  refine Met.ofW (cc := cc) (maxL := maxL) (ret := none) hy hw ?_
  intro p e s m args below meth c s₁ B hml hv
  obtain ⟨rfl, hsz, hP, hK, hD0, hN⟩ := hv
  have hx := B.exec
  have hb := B.bytes
  have hr := B.returns
  have hts := atoms_spec (ws := ws) B.pre
  have hown : s.vm.findClass y.cls = some m.cls := findClass_of_methodNamed B.named
  have hlocks := B.notSynchronized
  subst hsz
  have hD := hD0.self (sz := s.heap.size)
  have hl9 := lv_entry av (n := maxL) hl
  rw [lg_entry_eq]
  refine body p e s m below meth c (va_A w s.heap.size) _ ⟨hx, hb, hml, hown, hts, hK, hN, fun q h => Or.inr h⟩ ?_ _ hl9 ⟨hP, hD, va_S.rf⟩
  intro H locs ls pc hd h
  exact W.vret hx hb hr (fun t ht hW => ⟨⟨(), rfl, trivial, by rw [ht]; exact h.1, va_K.moved hW.alike hK, h.2.1⟩, h.2.2.F ht⟩) h.2.2.2.2 hd
/-! pure words of the decompiled methods -/
/-- a read at place i of an array of n places, then k -/
def rd {β : Type} (f : Nat → Int32) (n : Nat) (i : Int32) (k : Int32 → Option β) : Option β := if 0 ≤ i.toInt ∧ i.toInt < n then k (f i.toNatClampNeg) else none
/-- a write: is the place in the array? -/
def wt {β : Type} (n : Nat) (i : Int32) (k : Option β) : Option β := if 0 ≤ i.toInt ∧ i.toInt < n then k else none
theorem rd_some {β : Type} {f : Nat → Int32} {n : Nat} {i : Int32} {k : Int32 → Option β} {x : β} (h : rd f n i k = some x) : vp_in i n ∧ ∃ v, v = f i.toNatClampNeg ∧ k v = some x := by
  unfold rd at h
  split at h
  · next hc => exact ⟨vp_in_iff.mpr hc, _, rfl, h⟩
  · cases h
theorem wt_some {β : Type} {n : Nat} {i : Int32} {k : Option β} {x : β} (h : wt n i k = some x) : vp_in i n ∧ k = some x := by
  unfold wt at h
  split at h
  · next hc => exact ⟨vp_in_iff.mpr hc, h⟩
  · cases h
theorem ob_some {α β : Type} {o : Option α} {k : α → Option β} {x : β} (h : o.bind k = some x) : ∃ a, o = some a ∧ k a = some x := by
  cases o with
  | none => cases h
  | some a => exact ⟨a, rfl, h⟩
theorem ite_p {α : Type} {c : Prop} [Decidable c] {a b x : α} (h : c) (e : (if c then a else b) = x) : a = x := by rwa [if_pos h] at e
theorem ite_n {α : Type} {c : Prop} [Decidable c] {a b x : α} (h : ¬ c) (e : (if c then a else b) = x) : b = x := by rwa [if_neg h] at e
/-- a row of the arrays becomes r -/
def ur (g : Nat → Nat → Int32) (a : Nat) (r : Nat → Int32) : Nat → Nat → Int32 := fun b => if b = a then r else g b
/-- calls, by what comes back -/
def bR {β : Type} (o : Option Int32) (k : Int32 → Option β) : Option β := o.bind k
def bWv {β : Type} (o : Option ((Nat → Int32) × (Nat → Nat → Int32))) (k : (Nat → Int32) → (Nat → Nat → Int32) → Option β) : Option β := o.bind fun q => k q.1 q.2
def bWi {β : Type} (o : Option (Int32 × (Nat → Int32) × (Nat → Nat → Int32))) (k : Int32 → (Nat → Int32) → (Nat → Nat → Int32) → Option β) : Option β := o.bind fun q => k q.1 q.2.1 q.2.2
def bFv {β : Type} (o : Option ((Nat → Nat) × (Nat → Int32) × (Nat → Nat → Int32))) (k : (Nat → Nat) → (Nat → Int32) → (Nat → Nat → Int32) → Option β) : Option β := o.bind fun q => k q.1 q.2.1 q.2.2
def bFi {β : Type} (o : Option (Int32 × (Nat → Nat) × (Nat → Int32) × (Nat → Nat → Int32))) (k : Int32 → (Nat → Nat) → (Nat → Int32) → (Nat → Nat → Int32) → Option β) : Option β := o.bind fun q => k q.1 q.2.1 q.2.2.1 q.2.2.2
theorem bR_some {β : Type} {o : Option Int32} {k : Int32 → Option β} {x : β} (h : bR o k = some x) : ∃ r, o = some r ∧ k r = some x := ob_some h
theorem bWv_some {β : Type} {o : Option ((Nat → Int32) × (Nat → Nat → Int32))} {k : (Nat → Int32) → (Nat → Nat → Int32) → Option β} {x : β} (h : bWv o k = some x) : ∃ f g, o = some (f, g) ∧ k f g = some x := by
  obtain ⟨⟨f, g⟩, h1, h2⟩ := ob_some h
  exact ⟨f, g, h1, h2⟩
theorem bWi_some {β : Type} {o : Option (Int32 × (Nat → Int32) × (Nat → Nat → Int32))} {k : Int32 → (Nat → Int32) → (Nat → Nat → Int32) → Option β} {x : β} (h : bWi o k = some x) : ∃ r f g, o = some (r, f, g) ∧ k r f g = some x := by
  obtain ⟨⟨r, f, g⟩, h1, h2⟩ := ob_some h
  exact ⟨r, f, g, h1, h2⟩
theorem bFv_some {β : Type} {o : Option ((Nat → Nat) × (Nat → Int32) × (Nat → Nat → Int32))} {k : (Nat → Nat) → (Nat → Int32) → (Nat → Nat → Int32) → Option β} {x : β} (h : bFv o k = some x) : ∃ a f g, o = some (a, f, g) ∧ k a f g = some x := by
  obtain ⟨⟨a, f, g⟩, h1, h2⟩ := ob_some h
  exact ⟨a, f, g, h1, h2⟩
theorem bFi_some {β : Type} {o : Option (Int32 × (Nat → Nat) × (Nat → Int32) × (Nat → Nat → Int32))} {k : Int32 → (Nat → Nat) → (Nat → Int32) → (Nat → Nat → Int32) → Option β} {x : β} (h : bFi o k = some x) : ∃ r a f g, o = some (r, a, f, g) ∧ k r a f g = some x := by
  obtain ⟨⟨r, a, f, g⟩, h1, h2⟩ := ob_some h
  exact ⟨r, a, f, g, h1, h2⟩
/-! the worlds: the class's (current and other space by name), the reference's -/
abbrev cwx (cyI cyZ : ClassId) (n x : Nat) (ad : Nat → Nat) (cu ot : Nat) (f : Nat → Int32) (g : Nat → Nat → Int32) : va_W := [(x, .inr (2, [.int (f 0), .int (f 1), .ref (ad 4), .ref (ad 5), .ref (ad 1), .ref cu, .ref ot, .int (f 2), .int (f 3), .int (f 4), .int (f 5), .int (f 6), .int (f 7), .int (f 8), .int (f 9)])), (ad 1, .inr (0, [.ref (ad 6), .ref (ad 7), .int (f 10), .int (f 11)])), (ad 2, .inr (1, [.int (f 12), .ref (ad 8), .ref (ad 9), .ref (ad 10), .int (f 13)])), (ad 3, .inr (1, [.int (f 14), .ref (ad 11), .ref (ad 12), .ref (ad 13), .int (f 15)])), (ad 4, .inl (cyZ, 16, .inl (g 0))), (ad 5, .inl (cyI, 16, .inl (g 1))), (ad 6, .inl (cyI, 512, .inl (g 2))), (ad 7, .inl (cyI, 512, .inl (g 3))), (ad 8, .inl (cyI, n, .inl (g 4))), (ad 9, .inl (cyI, n, .inl (g 5))), (ad 10, .inl (cyI, n, .inl (g 6))), (ad 11, .inl (cyI, n, .inl (g 7))), (ad 12, .inl (cyI, n, .inl (g 8))), (ad 13, .inl (cyI, n, .inl (g 9)))]
abbrev cw (cyI cyZ : ClassId) (n x : Nat) (ad : Nat → Nat) (f : Nat → Int32) (g : Nat → Nat → Int32) : va_W := cwx cyI cyZ n x ad (ad 2) (ad 3) f g
abbrev mw (cyI cyZ : ClassId) (x : Nat) (ad : Nat → Nat) (f : Nat → Int32) (g : Nat → Nat → Int32) : va_W := [(x, .inr (3, [.int (f 0), .int (f 1), .int (f 2), .ref (ad 1), .ref (ad 2), .ref (ad 3), .ref (ad 4), .int (f 3), .ref (ad 5), .ref (ad 6), .int (f 4), .int (f 5), .int (f 6), .int (f 7), .ref (ad 7), .ref (ad 8), .int (f 8), .int (f 9), .int (f 10), .int (f 11), .int (f 12), .int (f 13)])), (ad 1, .inl (cyI, 800, .inl (g 0))), (ad 2, .inl (cyI, 800, .inl (g 1))), (ad 3, .inl (cyI, 800, .inl (g 2))), (ad 4, .inl (cyI, 2, .inl (g 3))), (ad 5, .inl (cyZ, 16, .inl (g 4))), (ad 6, .inl (cyI, 16, .inl (g 5))), (ad 7, .inl (cyI, 4096, .inl (g 6))), (ad 8, .inl (cyI, 4096, .inl (g 7)))]
/-! the two spaces change their parts -/
def swA (ad : Nat → Nat) : Nat → Nat := fun k => ad (match k with | 2 => 3 | 3 => 2 | 8 => 11 | 9 => 12 | 10 => 13 | 11 => 8 | 12 => 9 | 13 => 10 | k => k)
def swF (f : Nat → Int32) : Nat → Int32 := fun k => f (match k with | 12 => 14 | 13 => 15 | 14 => 12 | 15 => 13 | k => k)
def swG (g : Nat → Nat → Int32) : Nat → Nat → Int32 := fun k => g (match k with | 4 => 7 | 5 => 8 | 6 => 9 | 7 => 4 | 8 => 5 | 9 => 6 | k => k)
theorem rh_swap {G : va_G} {A : Nat → Prop} {s : State} {H : Heap} {locs : List Loc} {cyI cyZ : ClassId} {n x : Nat} {ad : Nat → Nat} {f : Nat → Int32} {g : Nat → Nat → Int32} (h : rh_W G A s H locs (cwx cyI cyZ n x ad (ad 3) (ad 2) f g)) : rh_W G A s H locs (cw cyI cyZ n x (swA ad) (swF f) (swG g)) :=
  ⟨h.1.sub [0, 1, 3, 2, 4, 5, 6, 7, 11, 12, 13, 8, 9, 10] rfl, h.2.1.sub [0, 1, 3, 2, 4, 5, 6, 7, 11, 12, 13, 8, 9, 10] (by decide) rfl, h.2.2⟩
/-- how often a loop of 'work' goes round, at most -/
def wF : Nat := 100000
/-- a number gets a name -/
def lt {β : Type} (e : Int32) (k : Int32 → Option β) : Option β := k e
theorem lt_some {β : Type} {e : Int32} {k : Int32 → Option β} {x : β} (h : lt e k = some x) : ∃ z, z = e ∧ k z = some x := ⟨e, rfl, h⟩
theorem rh_top {p : Program} {l : Launch} {e : Env} {R : Room} {s : State} {m : MethodId} {args : Array Value} {below : List Frame} {meth : Method} {c : Code} {H : Heap} {locs : List Loc} {cells slots : Nat} {Q : State → Prop} {pc : Nat} {ls : Array Slot} {rest : List Value} {z x : Int32} (hz : z = x) (k : W p l e R s m args below meth c H locs cells slots Q (F0 m pc ls (.int z :: rest))) : W p l e R s m args below meth c H locs cells slots Q (F0 m pc ls (.int x :: rest)) := by
  subst hz
  exact k
/-! a field, a row of the world becomes another -/
theorem cp_0 {G : va_G} {A : Nat → Prop} {s : State} {H : Heap} {locs : List Loc} {cyI cyZ : ClassId} {n x : Nat} {ad : Nat → Nat} {cu ot : Nat} {f : Nat → Int32} {g : Nat → Nat → Int32} {v : Int32} (h : rh_W G A s H locs ((cwx cyI cyZ n x ad cu ot f g).set 0 (x, .inr (2, [.int v, .int (f 1), .ref (ad 4), .ref (ad 5), .ref (ad 1), .ref cu, .ref ot, .int (f 2), .int (f 3), .int (f 4), .int (f 5), .int (f 6), .int (f 7), .int (f 8), .int (f 9)])))) : rh_W G A s H locs (cwx cyI cyZ n x ad cu ot (upd f 0 v) g) := h
theorem cp_1 {G : va_G} {A : Nat → Prop} {s : State} {H : Heap} {locs : List Loc} {cyI cyZ : ClassId} {n x : Nat} {ad : Nat → Nat} {cu ot : Nat} {f : Nat → Int32} {g : Nat → Nat → Int32} {v : Int32} (h : rh_W G A s H locs ((cwx cyI cyZ n x ad cu ot f g).set 0 (x, .inr (2, [.int (f 0), .int v, .ref (ad 4), .ref (ad 5), .ref (ad 1), .ref cu, .ref ot, .int (f 2), .int (f 3), .int (f 4), .int (f 5), .int (f 6), .int (f 7), .int (f 8), .int (f 9)])))) : rh_W G A s H locs (cwx cyI cyZ n x ad cu ot (upd f 1 v) g) := h
theorem cp_2 {G : va_G} {A : Nat → Prop} {s : State} {H : Heap} {locs : List Loc} {cyI cyZ : ClassId} {n x : Nat} {ad : Nat → Nat} {cu ot : Nat} {f : Nat → Int32} {g : Nat → Nat → Int32} {v : Int32} (h : rh_W G A s H locs ((cwx cyI cyZ n x ad cu ot f g).set 0 (x, .inr (2, [.int (f 0), .int (f 1), .ref (ad 4), .ref (ad 5), .ref (ad 1), .ref cu, .ref ot, .int v, .int (f 3), .int (f 4), .int (f 5), .int (f 6), .int (f 7), .int (f 8), .int (f 9)])))) : rh_W G A s H locs (cwx cyI cyZ n x ad cu ot (upd f 2 v) g) := h
theorem cp_3 {G : va_G} {A : Nat → Prop} {s : State} {H : Heap} {locs : List Loc} {cyI cyZ : ClassId} {n x : Nat} {ad : Nat → Nat} {cu ot : Nat} {f : Nat → Int32} {g : Nat → Nat → Int32} {v : Int32} (h : rh_W G A s H locs ((cwx cyI cyZ n x ad cu ot f g).set 0 (x, .inr (2, [.int (f 0), .int (f 1), .ref (ad 4), .ref (ad 5), .ref (ad 1), .ref cu, .ref ot, .int (f 2), .int v, .int (f 4), .int (f 5), .int (f 6), .int (f 7), .int (f 8), .int (f 9)])))) : rh_W G A s H locs (cwx cyI cyZ n x ad cu ot (upd f 3 v) g) := h
theorem cp_4 {G : va_G} {A : Nat → Prop} {s : State} {H : Heap} {locs : List Loc} {cyI cyZ : ClassId} {n x : Nat} {ad : Nat → Nat} {cu ot : Nat} {f : Nat → Int32} {g : Nat → Nat → Int32} {v : Int32} (h : rh_W G A s H locs ((cwx cyI cyZ n x ad cu ot f g).set 0 (x, .inr (2, [.int (f 0), .int (f 1), .ref (ad 4), .ref (ad 5), .ref (ad 1), .ref cu, .ref ot, .int (f 2), .int (f 3), .int v, .int (f 5), .int (f 6), .int (f 7), .int (f 8), .int (f 9)])))) : rh_W G A s H locs (cwx cyI cyZ n x ad cu ot (upd f 4 v) g) := h
theorem cp_5 {G : va_G} {A : Nat → Prop} {s : State} {H : Heap} {locs : List Loc} {cyI cyZ : ClassId} {n x : Nat} {ad : Nat → Nat} {cu ot : Nat} {f : Nat → Int32} {g : Nat → Nat → Int32} {v : Int32} (h : rh_W G A s H locs ((cwx cyI cyZ n x ad cu ot f g).set 0 (x, .inr (2, [.int (f 0), .int (f 1), .ref (ad 4), .ref (ad 5), .ref (ad 1), .ref cu, .ref ot, .int (f 2), .int (f 3), .int (f 4), .int v, .int (f 6), .int (f 7), .int (f 8), .int (f 9)])))) : rh_W G A s H locs (cwx cyI cyZ n x ad cu ot (upd f 5 v) g) := h
theorem cp_6 {G : va_G} {A : Nat → Prop} {s : State} {H : Heap} {locs : List Loc} {cyI cyZ : ClassId} {n x : Nat} {ad : Nat → Nat} {cu ot : Nat} {f : Nat → Int32} {g : Nat → Nat → Int32} {v : Int32} (h : rh_W G A s H locs ((cwx cyI cyZ n x ad cu ot f g).set 0 (x, .inr (2, [.int (f 0), .int (f 1), .ref (ad 4), .ref (ad 5), .ref (ad 1), .ref cu, .ref ot, .int (f 2), .int (f 3), .int (f 4), .int (f 5), .int v, .int (f 7), .int (f 8), .int (f 9)])))) : rh_W G A s H locs (cwx cyI cyZ n x ad cu ot (upd f 6 v) g) := h
theorem cp_7 {G : va_G} {A : Nat → Prop} {s : State} {H : Heap} {locs : List Loc} {cyI cyZ : ClassId} {n x : Nat} {ad : Nat → Nat} {cu ot : Nat} {f : Nat → Int32} {g : Nat → Nat → Int32} {v : Int32} (h : rh_W G A s H locs ((cwx cyI cyZ n x ad cu ot f g).set 0 (x, .inr (2, [.int (f 0), .int (f 1), .ref (ad 4), .ref (ad 5), .ref (ad 1), .ref cu, .ref ot, .int (f 2), .int (f 3), .int (f 4), .int (f 5), .int (f 6), .int v, .int (f 8), .int (f 9)])))) : rh_W G A s H locs (cwx cyI cyZ n x ad cu ot (upd f 7 v) g) := h
theorem cp_8 {G : va_G} {A : Nat → Prop} {s : State} {H : Heap} {locs : List Loc} {cyI cyZ : ClassId} {n x : Nat} {ad : Nat → Nat} {cu ot : Nat} {f : Nat → Int32} {g : Nat → Nat → Int32} {v : Int32} (h : rh_W G A s H locs ((cwx cyI cyZ n x ad cu ot f g).set 0 (x, .inr (2, [.int (f 0), .int (f 1), .ref (ad 4), .ref (ad 5), .ref (ad 1), .ref cu, .ref ot, .int (f 2), .int (f 3), .int (f 4), .int (f 5), .int (f 6), .int (f 7), .int v, .int (f 9)])))) : rh_W G A s H locs (cwx cyI cyZ n x ad cu ot (upd f 8 v) g) := h
theorem cp_9 {G : va_G} {A : Nat → Prop} {s : State} {H : Heap} {locs : List Loc} {cyI cyZ : ClassId} {n x : Nat} {ad : Nat → Nat} {cu ot : Nat} {f : Nat → Int32} {g : Nat → Nat → Int32} {v : Int32} (h : rh_W G A s H locs ((cwx cyI cyZ n x ad cu ot f g).set 0 (x, .inr (2, [.int (f 0), .int (f 1), .ref (ad 4), .ref (ad 5), .ref (ad 1), .ref cu, .ref ot, .int (f 2), .int (f 3), .int (f 4), .int (f 5), .int (f 6), .int (f 7), .int (f 8), .int v])))) : rh_W G A s H locs (cwx cyI cyZ n x ad cu ot (upd f 9 v) g) := h
theorem cp_10 {G : va_G} {A : Nat → Prop} {s : State} {H : Heap} {locs : List Loc} {cyI cyZ : ClassId} {n x : Nat} {ad : Nat → Nat} {cu ot : Nat} {f : Nat → Int32} {g : Nat → Nat → Int32} {v : Int32} (h : rh_W G A s H locs ((cwx cyI cyZ n x ad cu ot f g).set 1 (ad 1, .inr (0, [.ref (ad 6), .ref (ad 7), .int v, .int (f 11)])))) : rh_W G A s H locs (cwx cyI cyZ n x ad cu ot (upd f 10 v) g) := h
theorem cp_11 {G : va_G} {A : Nat → Prop} {s : State} {H : Heap} {locs : List Loc} {cyI cyZ : ClassId} {n x : Nat} {ad : Nat → Nat} {cu ot : Nat} {f : Nat → Int32} {g : Nat → Nat → Int32} {v : Int32} (h : rh_W G A s H locs ((cwx cyI cyZ n x ad cu ot f g).set 1 (ad 1, .inr (0, [.ref (ad 6), .ref (ad 7), .int (f 10), .int v])))) : rh_W G A s H locs (cwx cyI cyZ n x ad cu ot (upd f 11 v) g) := h
theorem cp_12 {G : va_G} {A : Nat → Prop} {s : State} {H : Heap} {locs : List Loc} {cyI cyZ : ClassId} {n x : Nat} {ad : Nat → Nat} {cu ot : Nat} {f : Nat → Int32} {g : Nat → Nat → Int32} {v : Int32} (h : rh_W G A s H locs ((cwx cyI cyZ n x ad cu ot f g).set 2 (ad 2, .inr (1, [.int v, .ref (ad 8), .ref (ad 9), .ref (ad 10), .int (f 13)])))) : rh_W G A s H locs (cwx cyI cyZ n x ad cu ot (upd f 12 v) g) := h
theorem cp_13 {G : va_G} {A : Nat → Prop} {s : State} {H : Heap} {locs : List Loc} {cyI cyZ : ClassId} {n x : Nat} {ad : Nat → Nat} {cu ot : Nat} {f : Nat → Int32} {g : Nat → Nat → Int32} {v : Int32} (h : rh_W G A s H locs ((cwx cyI cyZ n x ad cu ot f g).set 2 (ad 2, .inr (1, [.int (f 12), .ref (ad 8), .ref (ad 9), .ref (ad 10), .int v])))) : rh_W G A s H locs (cwx cyI cyZ n x ad cu ot (upd f 13 v) g) := h
theorem cp_14 {G : va_G} {A : Nat → Prop} {s : State} {H : Heap} {locs : List Loc} {cyI cyZ : ClassId} {n x : Nat} {ad : Nat → Nat} {cu ot : Nat} {f : Nat → Int32} {g : Nat → Nat → Int32} {v : Int32} (h : rh_W G A s H locs ((cwx cyI cyZ n x ad cu ot f g).set 3 (ad 3, .inr (1, [.int v, .ref (ad 11), .ref (ad 12), .ref (ad 13), .int (f 15)])))) : rh_W G A s H locs (cwx cyI cyZ n x ad cu ot (upd f 14 v) g) := h
theorem cp_15 {G : va_G} {A : Nat → Prop} {s : State} {H : Heap} {locs : List Loc} {cyI cyZ : ClassId} {n x : Nat} {ad : Nat → Nat} {cu ot : Nat} {f : Nat → Int32} {g : Nat → Nat → Int32} {v : Int32} (h : rh_W G A s H locs ((cwx cyI cyZ n x ad cu ot f g).set 3 (ad 3, .inr (1, [.int (f 14), .ref (ad 11), .ref (ad 12), .ref (ad 13), .int v])))) : rh_W G A s H locs (cwx cyI cyZ n x ad cu ot (upd f 15 v) g) := h
theorem cr_0 {G : va_G} {A : Nat → Prop} {s : State} {H : Heap} {locs : List Loc} {cyI cyZ : ClassId} {n x : Nat} {ad : Nat → Nat} {cu ot : Nat} {f : Nat → Int32} {g : Nat → Nat → Int32} {r : Nat → Int32} (h : rh_W G A s H locs ((cwx cyI cyZ n x ad cu ot f g).set 4 (ad 4, .inl (cyZ, 16, .inl r)))) : rh_W G A s H locs (cwx cyI cyZ n x ad cu ot f (ur g 0 r)) := h
theorem cr_1 {G : va_G} {A : Nat → Prop} {s : State} {H : Heap} {locs : List Loc} {cyI cyZ : ClassId} {n x : Nat} {ad : Nat → Nat} {cu ot : Nat} {f : Nat → Int32} {g : Nat → Nat → Int32} {r : Nat → Int32} (h : rh_W G A s H locs ((cwx cyI cyZ n x ad cu ot f g).set 5 (ad 5, .inl (cyI, 16, .inl r)))) : rh_W G A s H locs (cwx cyI cyZ n x ad cu ot f (ur g 1 r)) := h
theorem cr_2 {G : va_G} {A : Nat → Prop} {s : State} {H : Heap} {locs : List Loc} {cyI cyZ : ClassId} {n x : Nat} {ad : Nat → Nat} {cu ot : Nat} {f : Nat → Int32} {g : Nat → Nat → Int32} {r : Nat → Int32} (h : rh_W G A s H locs ((cwx cyI cyZ n x ad cu ot f g).set 6 (ad 6, .inl (cyI, 512, .inl r)))) : rh_W G A s H locs (cwx cyI cyZ n x ad cu ot f (ur g 2 r)) := h
theorem cr_3 {G : va_G} {A : Nat → Prop} {s : State} {H : Heap} {locs : List Loc} {cyI cyZ : ClassId} {n x : Nat} {ad : Nat → Nat} {cu ot : Nat} {f : Nat → Int32} {g : Nat → Nat → Int32} {r : Nat → Int32} (h : rh_W G A s H locs ((cwx cyI cyZ n x ad cu ot f g).set 7 (ad 7, .inl (cyI, 512, .inl r)))) : rh_W G A s H locs (cwx cyI cyZ n x ad cu ot f (ur g 3 r)) := h
theorem cr_4 {G : va_G} {A : Nat → Prop} {s : State} {H : Heap} {locs : List Loc} {cyI cyZ : ClassId} {n x : Nat} {ad : Nat → Nat} {cu ot : Nat} {f : Nat → Int32} {g : Nat → Nat → Int32} {r : Nat → Int32} (h : rh_W G A s H locs ((cwx cyI cyZ n x ad cu ot f g).set 8 (ad 8, .inl (cyI, n, .inl r)))) : rh_W G A s H locs (cwx cyI cyZ n x ad cu ot f (ur g 4 r)) := h
theorem cr_5 {G : va_G} {A : Nat → Prop} {s : State} {H : Heap} {locs : List Loc} {cyI cyZ : ClassId} {n x : Nat} {ad : Nat → Nat} {cu ot : Nat} {f : Nat → Int32} {g : Nat → Nat → Int32} {r : Nat → Int32} (h : rh_W G A s H locs ((cwx cyI cyZ n x ad cu ot f g).set 9 (ad 9, .inl (cyI, n, .inl r)))) : rh_W G A s H locs (cwx cyI cyZ n x ad cu ot f (ur g 5 r)) := h
theorem cr_6 {G : va_G} {A : Nat → Prop} {s : State} {H : Heap} {locs : List Loc} {cyI cyZ : ClassId} {n x : Nat} {ad : Nat → Nat} {cu ot : Nat} {f : Nat → Int32} {g : Nat → Nat → Int32} {r : Nat → Int32} (h : rh_W G A s H locs ((cwx cyI cyZ n x ad cu ot f g).set 10 (ad 10, .inl (cyI, n, .inl r)))) : rh_W G A s H locs (cwx cyI cyZ n x ad cu ot f (ur g 6 r)) := h
theorem cr_7 {G : va_G} {A : Nat → Prop} {s : State} {H : Heap} {locs : List Loc} {cyI cyZ : ClassId} {n x : Nat} {ad : Nat → Nat} {cu ot : Nat} {f : Nat → Int32} {g : Nat → Nat → Int32} {r : Nat → Int32} (h : rh_W G A s H locs ((cwx cyI cyZ n x ad cu ot f g).set 11 (ad 11, .inl (cyI, n, .inl r)))) : rh_W G A s H locs (cwx cyI cyZ n x ad cu ot f (ur g 7 r)) := h
theorem cr_8 {G : va_G} {A : Nat → Prop} {s : State} {H : Heap} {locs : List Loc} {cyI cyZ : ClassId} {n x : Nat} {ad : Nat → Nat} {cu ot : Nat} {f : Nat → Int32} {g : Nat → Nat → Int32} {r : Nat → Int32} (h : rh_W G A s H locs ((cwx cyI cyZ n x ad cu ot f g).set 12 (ad 12, .inl (cyI, n, .inl r)))) : rh_W G A s H locs (cwx cyI cyZ n x ad cu ot f (ur g 8 r)) := h
theorem cr_9 {G : va_G} {A : Nat → Prop} {s : State} {H : Heap} {locs : List Loc} {cyI cyZ : ClassId} {n x : Nat} {ad : Nat → Nat} {cu ot : Nat} {f : Nat → Int32} {g : Nat → Nat → Int32} {r : Nat → Int32} (h : rh_W G A s H locs ((cwx cyI cyZ n x ad cu ot f g).set 13 (ad 13, .inl (cyI, n, .inl r)))) : rh_W G A s H locs (cwx cyI cyZ n x ad cu ot f (ur g 9 r)) := h
theorem mp_0 {G : va_G} {A : Nat → Prop} {s : State} {H : Heap} {locs : List Loc} {cyI cyZ : ClassId} {x : Nat} {ad : Nat → Nat} {f : Nat → Int32} {g : Nat → Nat → Int32} {v : Int32} (h : rh_W G A s H locs ((mw cyI cyZ x ad f g).set 0 (x, .inr (3, [.int v, .int (f 1), .int (f 2), .ref (ad 1), .ref (ad 2), .ref (ad 3), .ref (ad 4), .int (f 3), .ref (ad 5), .ref (ad 6), .int (f 4), .int (f 5), .int (f 6), .int (f 7), .ref (ad 7), .ref (ad 8), .int (f 8), .int (f 9), .int (f 10), .int (f 11), .int (f 12), .int (f 13)])))) : rh_W G A s H locs (mw cyI cyZ x ad (upd f 0 v) g) := h
theorem mp_1 {G : va_G} {A : Nat → Prop} {s : State} {H : Heap} {locs : List Loc} {cyI cyZ : ClassId} {x : Nat} {ad : Nat → Nat} {f : Nat → Int32} {g : Nat → Nat → Int32} {v : Int32} (h : rh_W G A s H locs ((mw cyI cyZ x ad f g).set 0 (x, .inr (3, [.int (f 0), .int v, .int (f 2), .ref (ad 1), .ref (ad 2), .ref (ad 3), .ref (ad 4), .int (f 3), .ref (ad 5), .ref (ad 6), .int (f 4), .int (f 5), .int (f 6), .int (f 7), .ref (ad 7), .ref (ad 8), .int (f 8), .int (f 9), .int (f 10), .int (f 11), .int (f 12), .int (f 13)])))) : rh_W G A s H locs (mw cyI cyZ x ad (upd f 1 v) g) := h
theorem mp_2 {G : va_G} {A : Nat → Prop} {s : State} {H : Heap} {locs : List Loc} {cyI cyZ : ClassId} {x : Nat} {ad : Nat → Nat} {f : Nat → Int32} {g : Nat → Nat → Int32} {v : Int32} (h : rh_W G A s H locs ((mw cyI cyZ x ad f g).set 0 (x, .inr (3, [.int (f 0), .int (f 1), .int v, .ref (ad 1), .ref (ad 2), .ref (ad 3), .ref (ad 4), .int (f 3), .ref (ad 5), .ref (ad 6), .int (f 4), .int (f 5), .int (f 6), .int (f 7), .ref (ad 7), .ref (ad 8), .int (f 8), .int (f 9), .int (f 10), .int (f 11), .int (f 12), .int (f 13)])))) : rh_W G A s H locs (mw cyI cyZ x ad (upd f 2 v) g) := h
theorem mp_3 {G : va_G} {A : Nat → Prop} {s : State} {H : Heap} {locs : List Loc} {cyI cyZ : ClassId} {x : Nat} {ad : Nat → Nat} {f : Nat → Int32} {g : Nat → Nat → Int32} {v : Int32} (h : rh_W G A s H locs ((mw cyI cyZ x ad f g).set 0 (x, .inr (3, [.int (f 0), .int (f 1), .int (f 2), .ref (ad 1), .ref (ad 2), .ref (ad 3), .ref (ad 4), .int v, .ref (ad 5), .ref (ad 6), .int (f 4), .int (f 5), .int (f 6), .int (f 7), .ref (ad 7), .ref (ad 8), .int (f 8), .int (f 9), .int (f 10), .int (f 11), .int (f 12), .int (f 13)])))) : rh_W G A s H locs (mw cyI cyZ x ad (upd f 3 v) g) := h
theorem mp_4 {G : va_G} {A : Nat → Prop} {s : State} {H : Heap} {locs : List Loc} {cyI cyZ : ClassId} {x : Nat} {ad : Nat → Nat} {f : Nat → Int32} {g : Nat → Nat → Int32} {v : Int32} (h : rh_W G A s H locs ((mw cyI cyZ x ad f g).set 0 (x, .inr (3, [.int (f 0), .int (f 1), .int (f 2), .ref (ad 1), .ref (ad 2), .ref (ad 3), .ref (ad 4), .int (f 3), .ref (ad 5), .ref (ad 6), .int v, .int (f 5), .int (f 6), .int (f 7), .ref (ad 7), .ref (ad 8), .int (f 8), .int (f 9), .int (f 10), .int (f 11), .int (f 12), .int (f 13)])))) : rh_W G A s H locs (mw cyI cyZ x ad (upd f 4 v) g) := h
theorem mp_5 {G : va_G} {A : Nat → Prop} {s : State} {H : Heap} {locs : List Loc} {cyI cyZ : ClassId} {x : Nat} {ad : Nat → Nat} {f : Nat → Int32} {g : Nat → Nat → Int32} {v : Int32} (h : rh_W G A s H locs ((mw cyI cyZ x ad f g).set 0 (x, .inr (3, [.int (f 0), .int (f 1), .int (f 2), .ref (ad 1), .ref (ad 2), .ref (ad 3), .ref (ad 4), .int (f 3), .ref (ad 5), .ref (ad 6), .int (f 4), .int v, .int (f 6), .int (f 7), .ref (ad 7), .ref (ad 8), .int (f 8), .int (f 9), .int (f 10), .int (f 11), .int (f 12), .int (f 13)])))) : rh_W G A s H locs (mw cyI cyZ x ad (upd f 5 v) g) := h
theorem mp_6 {G : va_G} {A : Nat → Prop} {s : State} {H : Heap} {locs : List Loc} {cyI cyZ : ClassId} {x : Nat} {ad : Nat → Nat} {f : Nat → Int32} {g : Nat → Nat → Int32} {v : Int32} (h : rh_W G A s H locs ((mw cyI cyZ x ad f g).set 0 (x, .inr (3, [.int (f 0), .int (f 1), .int (f 2), .ref (ad 1), .ref (ad 2), .ref (ad 3), .ref (ad 4), .int (f 3), .ref (ad 5), .ref (ad 6), .int (f 4), .int (f 5), .int v, .int (f 7), .ref (ad 7), .ref (ad 8), .int (f 8), .int (f 9), .int (f 10), .int (f 11), .int (f 12), .int (f 13)])))) : rh_W G A s H locs (mw cyI cyZ x ad (upd f 6 v) g) := h
theorem mp_7 {G : va_G} {A : Nat → Prop} {s : State} {H : Heap} {locs : List Loc} {cyI cyZ : ClassId} {x : Nat} {ad : Nat → Nat} {f : Nat → Int32} {g : Nat → Nat → Int32} {v : Int32} (h : rh_W G A s H locs ((mw cyI cyZ x ad f g).set 0 (x, .inr (3, [.int (f 0), .int (f 1), .int (f 2), .ref (ad 1), .ref (ad 2), .ref (ad 3), .ref (ad 4), .int (f 3), .ref (ad 5), .ref (ad 6), .int (f 4), .int (f 5), .int (f 6), .int v, .ref (ad 7), .ref (ad 8), .int (f 8), .int (f 9), .int (f 10), .int (f 11), .int (f 12), .int (f 13)])))) : rh_W G A s H locs (mw cyI cyZ x ad (upd f 7 v) g) := h
theorem mp_8 {G : va_G} {A : Nat → Prop} {s : State} {H : Heap} {locs : List Loc} {cyI cyZ : ClassId} {x : Nat} {ad : Nat → Nat} {f : Nat → Int32} {g : Nat → Nat → Int32} {v : Int32} (h : rh_W G A s H locs ((mw cyI cyZ x ad f g).set 0 (x, .inr (3, [.int (f 0), .int (f 1), .int (f 2), .ref (ad 1), .ref (ad 2), .ref (ad 3), .ref (ad 4), .int (f 3), .ref (ad 5), .ref (ad 6), .int (f 4), .int (f 5), .int (f 6), .int (f 7), .ref (ad 7), .ref (ad 8), .int v, .int (f 9), .int (f 10), .int (f 11), .int (f 12), .int (f 13)])))) : rh_W G A s H locs (mw cyI cyZ x ad (upd f 8 v) g) := h
theorem mp_9 {G : va_G} {A : Nat → Prop} {s : State} {H : Heap} {locs : List Loc} {cyI cyZ : ClassId} {x : Nat} {ad : Nat → Nat} {f : Nat → Int32} {g : Nat → Nat → Int32} {v : Int32} (h : rh_W G A s H locs ((mw cyI cyZ x ad f g).set 0 (x, .inr (3, [.int (f 0), .int (f 1), .int (f 2), .ref (ad 1), .ref (ad 2), .ref (ad 3), .ref (ad 4), .int (f 3), .ref (ad 5), .ref (ad 6), .int (f 4), .int (f 5), .int (f 6), .int (f 7), .ref (ad 7), .ref (ad 8), .int (f 8), .int v, .int (f 10), .int (f 11), .int (f 12), .int (f 13)])))) : rh_W G A s H locs (mw cyI cyZ x ad (upd f 9 v) g) := h
theorem mp_10 {G : va_G} {A : Nat → Prop} {s : State} {H : Heap} {locs : List Loc} {cyI cyZ : ClassId} {x : Nat} {ad : Nat → Nat} {f : Nat → Int32} {g : Nat → Nat → Int32} {v : Int32} (h : rh_W G A s H locs ((mw cyI cyZ x ad f g).set 0 (x, .inr (3, [.int (f 0), .int (f 1), .int (f 2), .ref (ad 1), .ref (ad 2), .ref (ad 3), .ref (ad 4), .int (f 3), .ref (ad 5), .ref (ad 6), .int (f 4), .int (f 5), .int (f 6), .int (f 7), .ref (ad 7), .ref (ad 8), .int (f 8), .int (f 9), .int v, .int (f 11), .int (f 12), .int (f 13)])))) : rh_W G A s H locs (mw cyI cyZ x ad (upd f 10 v) g) := h
theorem mp_11 {G : va_G} {A : Nat → Prop} {s : State} {H : Heap} {locs : List Loc} {cyI cyZ : ClassId} {x : Nat} {ad : Nat → Nat} {f : Nat → Int32} {g : Nat → Nat → Int32} {v : Int32} (h : rh_W G A s H locs ((mw cyI cyZ x ad f g).set 0 (x, .inr (3, [.int (f 0), .int (f 1), .int (f 2), .ref (ad 1), .ref (ad 2), .ref (ad 3), .ref (ad 4), .int (f 3), .ref (ad 5), .ref (ad 6), .int (f 4), .int (f 5), .int (f 6), .int (f 7), .ref (ad 7), .ref (ad 8), .int (f 8), .int (f 9), .int (f 10), .int v, .int (f 12), .int (f 13)])))) : rh_W G A s H locs (mw cyI cyZ x ad (upd f 11 v) g) := h
theorem mp_12 {G : va_G} {A : Nat → Prop} {s : State} {H : Heap} {locs : List Loc} {cyI cyZ : ClassId} {x : Nat} {ad : Nat → Nat} {f : Nat → Int32} {g : Nat → Nat → Int32} {v : Int32} (h : rh_W G A s H locs ((mw cyI cyZ x ad f g).set 0 (x, .inr (3, [.int (f 0), .int (f 1), .int (f 2), .ref (ad 1), .ref (ad 2), .ref (ad 3), .ref (ad 4), .int (f 3), .ref (ad 5), .ref (ad 6), .int (f 4), .int (f 5), .int (f 6), .int (f 7), .ref (ad 7), .ref (ad 8), .int (f 8), .int (f 9), .int (f 10), .int (f 11), .int v, .int (f 13)])))) : rh_W G A s H locs (mw cyI cyZ x ad (upd f 12 v) g) := h
theorem mp_13 {G : va_G} {A : Nat → Prop} {s : State} {H : Heap} {locs : List Loc} {cyI cyZ : ClassId} {x : Nat} {ad : Nat → Nat} {f : Nat → Int32} {g : Nat → Nat → Int32} {v : Int32} (h : rh_W G A s H locs ((mw cyI cyZ x ad f g).set 0 (x, .inr (3, [.int (f 0), .int (f 1), .int (f 2), .ref (ad 1), .ref (ad 2), .ref (ad 3), .ref (ad 4), .int (f 3), .ref (ad 5), .ref (ad 6), .int (f 4), .int (f 5), .int (f 6), .int (f 7), .ref (ad 7), .ref (ad 8), .int (f 8), .int (f 9), .int (f 10), .int (f 11), .int (f 12), .int v])))) : rh_W G A s H locs (mw cyI cyZ x ad (upd f 13 v) g) := h
theorem mr_0 {G : va_G} {A : Nat → Prop} {s : State} {H : Heap} {locs : List Loc} {cyI cyZ : ClassId} {x : Nat} {ad : Nat → Nat} {f : Nat → Int32} {g : Nat → Nat → Int32} {r : Nat → Int32} (h : rh_W G A s H locs ((mw cyI cyZ x ad f g).set 1 (ad 1, .inl (cyI, 800, .inl r)))) : rh_W G A s H locs (mw cyI cyZ x ad f (ur g 0 r)) := h
theorem mr_1 {G : va_G} {A : Nat → Prop} {s : State} {H : Heap} {locs : List Loc} {cyI cyZ : ClassId} {x : Nat} {ad : Nat → Nat} {f : Nat → Int32} {g : Nat → Nat → Int32} {r : Nat → Int32} (h : rh_W G A s H locs ((mw cyI cyZ x ad f g).set 2 (ad 2, .inl (cyI, 800, .inl r)))) : rh_W G A s H locs (mw cyI cyZ x ad f (ur g 1 r)) := h
theorem mr_2 {G : va_G} {A : Nat → Prop} {s : State} {H : Heap} {locs : List Loc} {cyI cyZ : ClassId} {x : Nat} {ad : Nat → Nat} {f : Nat → Int32} {g : Nat → Nat → Int32} {r : Nat → Int32} (h : rh_W G A s H locs ((mw cyI cyZ x ad f g).set 3 (ad 3, .inl (cyI, 800, .inl r)))) : rh_W G A s H locs (mw cyI cyZ x ad f (ur g 2 r)) := h
theorem mr_3 {G : va_G} {A : Nat → Prop} {s : State} {H : Heap} {locs : List Loc} {cyI cyZ : ClassId} {x : Nat} {ad : Nat → Nat} {f : Nat → Int32} {g : Nat → Nat → Int32} {r : Nat → Int32} (h : rh_W G A s H locs ((mw cyI cyZ x ad f g).set 4 (ad 4, .inl (cyI, 2, .inl r)))) : rh_W G A s H locs (mw cyI cyZ x ad f (ur g 3 r)) := h
theorem mr_4 {G : va_G} {A : Nat → Prop} {s : State} {H : Heap} {locs : List Loc} {cyI cyZ : ClassId} {x : Nat} {ad : Nat → Nat} {f : Nat → Int32} {g : Nat → Nat → Int32} {r : Nat → Int32} (h : rh_W G A s H locs ((mw cyI cyZ x ad f g).set 5 (ad 5, .inl (cyZ, 16, .inl r)))) : rh_W G A s H locs (mw cyI cyZ x ad f (ur g 4 r)) := h
theorem mr_5 {G : va_G} {A : Nat → Prop} {s : State} {H : Heap} {locs : List Loc} {cyI cyZ : ClassId} {x : Nat} {ad : Nat → Nat} {f : Nat → Int32} {g : Nat → Nat → Int32} {r : Nat → Int32} (h : rh_W G A s H locs ((mw cyI cyZ x ad f g).set 6 (ad 6, .inl (cyI, 16, .inl r)))) : rh_W G A s H locs (mw cyI cyZ x ad f (ur g 5 r)) := h
theorem mr_6 {G : va_G} {A : Nat → Prop} {s : State} {H : Heap} {locs : List Loc} {cyI cyZ : ClassId} {x : Nat} {ad : Nat → Nat} {f : Nat → Int32} {g : Nat → Nat → Int32} {r : Nat → Int32} (h : rh_W G A s H locs ((mw cyI cyZ x ad f g).set 7 (ad 7, .inl (cyI, 4096, .inl r)))) : rh_W G A s H locs (mw cyI cyZ x ad f (ur g 6 r)) := h
theorem mr_7 {G : va_G} {A : Nat → Prop} {s : State} {H : Heap} {locs : List Loc} {cyI cyZ : ClassId} {x : Nat} {ad : Nat → Nat} {f : Nat → Int32} {g : Nat → Nat → Int32} {r : Nat → Int32} (h : rh_W G A s H locs ((mw cyI cyZ x ad f g).set 8 (ad 8, .inl (cyI, 4096, .inl r)))) : rh_W G A s H locs (mw cyI cyZ x ad f (ur g 7 r)) := h
/-- a boolean that is answered -/
def bz {β : Type} (v : Int32) (k : Option β) : Option β := if v = 0 ∨ v = 1 then k else none
theorem bz_some {β : Type} {v : Int32} {k : Option β} {x : β} (h : bz v k = some x) : (v = 0 ∨ v = 1) ∧ k = some x := by
  unfold bz at h
  split at h
  · next hc => exact ⟨hc, h⟩
  · cases h
theorem bz_nar {v : Int32} (h : v = 0 ∨ v = 1) : narrow .boolean (.int v) = .int v := by
  rcases h with rfl | rfl <;> rfl
end
section
/-! ===== methods that may throw: contracts over one world ===== -/
def rt_U (A : Nat → Prop) (U : State) (H : Heap) : Prop := vx_Zq Bundle.tN "UNASSIGNED_STACK" Bundle.steD A U H ∧ vx_Zq Bundle.tN "SUPPRESSED_SENTINEL" Bundle.listD A U H
theorem rt_U.moved {A : Nat → Prop} {u U : State} {H : Heap} (hvm : u.vm.Alike U.vm) (h : rt_U A u H) : rt_U A U H := ⟨vx_Zq.moved hvm h.1, vx_Zq.moved hvm h.2⟩
theorem rt_U.kept {A : Nat → Prop} {U : State} {H H1 : Heap} (h : rt_U A U H) (hq : ∀ a : Nat, a < H.size → ¬ A a → H1[a]? = H[a]?) : rt_U A U H1 := ⟨h.1.kept hq, h.2.kept hq⟩
theorem rt_U.narrow {A B : Nat → Prop} {U : State} {H : Heap} (h : rt_U A U H) (hAB : ∀ q, B q → A q) : rt_U B U H := ⟨h.1.narrow hAB, h.2.narrow hAB⟩
def rt_Pre (G : va_G) (tys : List (ClassId × FieldType)) (L : List Cond) (w : va_W) (sz : Nat) (av : List Value) : Array Value → State → Prop := va_Pc av (fun U => U.heap.size = sz ∧ va_P G vwCl w U.heap ∧ va_K G vwCl tys U ∧ va_D (fun _ => True) w ∧ rn L U ∧ rt_U (va_A w sz) U U.heap)
theorem rt_blind {G : va_G} {tys : List (ClassId × FieldType)} {L : List Cond} {w : va_W} {sz : Nat} {av : List Value} : FrameBlind (rt_Pre G tys L w sz av) := by
  intro a U g mk q
  obtain ⟨q0, q1, qP, qK, qD, qN, qU⟩ := q
  exact ⟨q0, q1, qP, va_K.moved (u := U) (U := U.calling g mk a) (Vm.Alike.refl U.vm) qK, qD, rn.same (u := U) (U := U.calling g mk a) rfl qN, rt_U.moved (u := U) (U := U.calling g mk a) (Vm.Alike.refl U.vm) qU⟩
def rt_Qi (G : va_G) (tys : List (ClassId × FieldType)) (w : va_W) (sz : Nat) (k : Nat) (r : Int32) (w' : va_W) : Array Value → State → Outcome → State → Prop := va_Qi (S := Unit) (fun r1 _ => k = 0 ∧ r1 = r) (fun _ t => rh_At G tys (va_A w sz) w' t) (va_A w sz)
def rt_Qv (G : va_G) (tys : List (ClassId × FieldType)) (w : va_W) (sz : Nat) (k : Nat) (w' : va_W) : Array Value → State → Outcome → State → Prop := va_Qv (S := Unit) (fun _ => k = 0) (fun _ t => rh_At G tys (va_A w sz) w' t) (va_A w sz)
def rt_X (nm : Nat → String) (G : va_G) (tys : List (ClassId × FieldType)) (w : va_W) (sz : Nat) (k : Nat) (w' : va_W) : String → State → State → Prop := vx_X (S := Unit) (fun _ => k ≠ 0) (fun E _ t => E = nm k ∧ rh_At G tys (va_A w sz) w' t) (va_A w sz)
/-- returns r (k = 0) or throws the exception nm k; the world w becomes w' -/
def rt_Mi (nm : Nat → String) (l : Launch) (y : MethodName) (ws : List Cond) (rm : Room) (G : va_G) (tys : List (ClassId × FieldType)) (L : List Cond) (w : va_W) (av : List Value) (k : Nat) (r : Int32) (w' : va_W) : Prop := ∀ sz : Nat, vx_Met l y ws rm (rt_Pre G tys L w sz av) (rt_Qi G tys w sz k r w') (rt_X nm G tys w sz k w') 1 6 (va_A w sz)
def rt_Mv (nm : Nat → String) (l : Launch) (y : MethodName) (ws : List Cond) (rm : Room) (G : va_G) (tys : List (ClassId × FieldType)) (L : List Cond) (w : va_W) (av : List Value) (k : Nat) (w' : va_W) : Prop := ∀ sz : Nat, vx_Met l y ws rm (rt_Pre G tys L w sz av) (rt_Qv G tys w sz k w') (rt_X nm G tys w sz k w') 1 6 (va_A w sz)
/-- the words of a throw -/
def rt_w (own : String) (Ts L : List Cond) (E : String) (ik ic : Nat) : Prop := Cond.classLink own ik E ∈ Ts ∧ Cond.initialized E ∈ Ts ∧ (∀ w ∈ (vx_at0 own ic E rn_names).filter goodWord, w ∈ Ts) ∧ (∀ w ∈ (vx_at0 own ic E rn_names).filter (fun w => !goodWord w), w ∈ L) ∧ (∀ w ∈ Cond.classLink own ik E :: Cond.initialized E :: vx_at0 own ic E rn_names, vx_ot w = true) ∧ Bundle.fit E = true
theorem rn_fit : ∀ n ∈ rn_names, Bundle.fit n = true := by decide +kernel
theorem rt_throw {p : Program} {l : Launch} {e : Env} {rm : Room} {s : State} {m : MethodId} {args : Array Value} {below : List Frame} {meth : Method} {c : Code} {H : Heap} {locs : List Loc} {cc : ByteArray} {nL : Nat} {own : String} {Ts : List Cond} {G : va_G} {tys : List (ClassId × FieldType)} {L : List Cond} {w w' : va_W} {nm : Nat → String} {k : Nat} {Qc : Array Value → State → Outcome → State → Prop}
    (hlt : l.stackTraces = false) (X : rh_X p s m args c cc nL own Ts G tys L (va_A w s.heap.size)) (hU : rt_U (va_A w s.heap.size) s s.heap) (hlocks : meth.locks = false) (htab : ∀ x ∈ c.exceptionTable.toList, False) (hrc : rm.cells = 1) (hrs : rm.slots = 6) (hfr : 5 < rm.frames) (hlo : 81 ≤ rm.locals)
    (h : rh_W G (va_A w s.heap.size) s H locs w') {ls : Array Slot} {pc ik ic : Nat} {E : String} (hls : ls.size = nL) (hk : k ≠ 0) (hE : E = nm k) (ht : rt_w own Ts L E ik ic)
    (d0 : decode cc pc = .ok (.new ik, 3)) (d3 : decode cc (pc + 3) = .ok (.dup, 1)) (d4 : decode cc (pc + 4) = .ok (.invokespecial ic, 3)) (d7 : decode cc (pc + 7) = .ok (.athrow, 1)) :
    W p l e rm s m args below meth c H locs 0 0 (vx_MQ below Qc (rt_X nm G tys w s.heap.size k w') args s 1 6 (va_A w s.heap.size)) (F0 m pc ls []) := by
  obtain ⟨t1, t2, t3, t4, t5, t6⟩ := ht
  have hts := X.2.2.2.2.1
  refine vx_throw0 X.1 X.2.1 hlt X.2.2.2.1 t6 rn_fit (hts _ t1) (hts _ t2) (vx_hat (B := L) (fun w hw => hts _ (t3 w hw)) t4 (fun w hw => ?_)) t5 hU.1 hU.2 h.2.2 (hls.trans X.2.2.1.symm) d0 d3 d4 d7 (fun x hx => (htab x hx).elim) (by exact hfr) (by exact hlo) (by rw [hrc]; exact Nat.le_refl 1) (by rw [hrs]; exact Nat.le_refl 6) hlocks (fun t hvm hz hq => ?_) h.2.2.2.2 (Nat.le_refl 1) (Nat.le_refl 6)
  · have h1 := X.2.2.2.2.2.2.1.1 w hw
    have h2 := X.2.2.2.2.2.2.1.2 w hw
    unfold rn_is at h1
    split at h1
    · exact va_Nw.use rfl h2
    · exact va_Nw.use rfl h2
    · exact va_Nw.use rfl h2
    · exact va_Nw.use rfl h2
    · cases h1
  · exact ⟨(), hk, ⟨hE, h.1.kept (fun k1 q1 hk1 => hq _ (vx_lt h.1 hk1)), va_K.moved hvm X.2.2.2.2.2.1, h.2.1⟩, Nat.le_trans h.2.2.1 hz, fun q h1 h2 => by rw [hq q (Nat.lt_of_lt_of_le h1 h.2.2.1)]; exact h.2.2.2.1 q h1 h2⟩
/-- the throws of a method, as its walk wants them -/
def rt_T (p : Program) (l : Launch) (e : Env) (rm : Room) (s : State) (m : MethodId) (args : Array Value) (below : List Frame) (meth : Method) (c : Code) (cc : ByteArray) (nL : Nat) (own : String) (Ts : List Cond) (G : va_G) (L : List Cond) (A : Nat → Prop) (w' : va_W) (nm : Nat → String) (k : Nat) (Q : State → Prop) : Prop :=
  ∀ (H : Heap) (locs : List Loc) (ls : Array Slot) (pc ik ic : Nat) (E : String), ls.size = nL → k ≠ 0 → E = nm k → rt_w own Ts L E ik ic → decode cc pc = .ok (.new ik, 3) → decode cc (pc + 3) = .ok (.dup, 1) → decode cc (pc + 4) = .ok (.invokespecial ic, 3) → decode cc (pc + 7) = .ok (.athrow, 1) → rh_W G A s H locs w' → W p l e rm s m args below meth c H locs 0 0 Q (F0 m pc ls [])
theorem rt_ofi {nm : Nat → String} {l : Launch} {y : MethodName} {ws ws' : List Cond} {rm : Room} {G : va_G} {tys : List (ClassId × FieldType)} {L : List Cond} {w w' : va_W} {av : List Value} {k : Nat} {r : Int32} {cc : ByteArray} {maxL : Nat} {ty : FieldType} (hlt : l.stackTraces = false) (hy : plainName y.cls = true) (hw : ws = Cond.code y cc maxL (some ty) :: ws') (hl : (lg_sl av).length ≤ maxL) (hrc : rm.cells = 1) (hrs : rm.slots = 6) (hfr : 5 < rm.frames) (hlo : 81 ≤ rm.locals)
    (body : ∀ (p : Program) (e : Env) (s : State) (m : MethodId) (below : List Frame) (meth : Method) (c : Code) (A : Nat → Prop) (Q : State → Prop), rh_X p s m av.toArray c cc maxL y.cls ws G tys L A →
      (∀ (H : Heap) (locs : List Loc) (ls : Array Slot) (pc : Nat), k = 0 → narrow ty (.int r) = .int r → decode cc pc = .ok (.ireturn, 1) → rh_W G A s H locs w' → W p l e rm s m av.toArray below meth c H locs 0 0 Q (F0 m pc ls [.int r])) →
      rt_T p l e rm s m av.toArray below meth c cc maxL y.cls ws G L A w' nm k Q →
      ∀ (ls : Array Slot), lv_has ls maxL (lv_args 0 av) → rh_W G A s s.heap [] w → W p l e rm s m av.toArray below meth c s.heap [] 0 0 Q (F0 m 0 ls [])) : rt_Mi nm l y ws rm G tys L w av k r w' := by
  intro sz
  refine vx_ofW (cc := cc) (maxL := maxL) (ret := some ty) hy hw ?_
  intro p e s m args below meth c s₁ B hml htab hv
  obtain ⟨rfl, hsz, hP, hK, hD0, hN, hU⟩ := hv
  have hx := B.exec
  have hb := B.bytes
  have hr := B.returns
  have hts := atoms_spec (ws := ws) B.pre
  have hown : s.vm.findClass y.cls = some m.cls := findClass_of_methodNamed B.named
  have hlocks := B.notSynchronized
  subst hsz
  have hD := hD0.self (sz := s.heap.size)
  have hl9 := lv_entry av (n := maxL) hl
  rw [lg_entry_eq]
  have X : rh_X p s m av.toArray c cc maxL y.cls ws G tys L (va_A w s.heap.size) := ⟨hx, hb, hml, hown, hts, hK, hN, fun q h => Or.inr h⟩
  refine body p e s m below meth c (va_A w s.heap.size) _ X ?_ ?_ _ hl9 ⟨hP, hD, va_S.rf⟩
  · intro H locs ls pc hk0 hn hd h
    refine vx_ret (W.widen (k := 1) (n := 6) (Nat.zero_le _) (Nat.zero_le _) ?_)
    exact W.zret (v := r) hx hb hr hn (fun t ht hW => ⟨⟨r, (), rfl, ⟨hk0, rfl⟩, by rw [ht]; exact h.1, va_K.moved hW.alike hK, h.2.1⟩, h.2.2.F ht⟩) h.2.2.2.2 hd
  · intro H locs ls pc ik ic E hls hk hE ht d0 d3 d4 d7 h
    exact rt_throw hlt X hU hlocks htab hrc hrs hfr hlo h hls hk hE ht d0 d3 d4 d7
theorem rt_ofv {nm : Nat → String} {l : Launch} {y : MethodName} {ws ws' : List Cond} {rm : Room} {G : va_G} {tys : List (ClassId × FieldType)} {L : List Cond} {w w' : va_W} {av : List Value} {k : Nat} {cc : ByteArray} {maxL : Nat} (hlt : l.stackTraces = false) (hy : plainName y.cls = true) (hw : ws = Cond.code y cc maxL none :: ws') (hl : (lg_sl av).length ≤ maxL) (hrc : rm.cells = 1) (hrs : rm.slots = 6) (hfr : 5 < rm.frames) (hlo : 81 ≤ rm.locals)
    (body : ∀ (p : Program) (e : Env) (s : State) (m : MethodId) (below : List Frame) (meth : Method) (c : Code) (A : Nat → Prop) (Q : State → Prop), rh_X p s m av.toArray c cc maxL y.cls ws G tys L A →
      (∀ (H : Heap) (locs : List Loc) (ls : Array Slot) (pc : Nat), k = 0 → decode cc pc = .ok (.return_, 1) → rh_W G A s H locs w' → W p l e rm s m av.toArray below meth c H locs 0 0 Q (F0 m pc ls [])) →
      rt_T p l e rm s m av.toArray below meth c cc maxL y.cls ws G L A w' nm k Q →
      ∀ (ls : Array Slot), lv_has ls maxL (lv_args 0 av) → rh_W G A s s.heap [] w → W p l e rm s m av.toArray below meth c s.heap [] 0 0 Q (F0 m 0 ls [])) : rt_Mv nm l y ws rm G tys L w av k w' := by
  intro sz
  refine vx_ofW (cc := cc) (maxL := maxL) (ret := none) hy hw ?_
  intro p e s m args below meth c s₁ B hml htab hv
  obtain ⟨rfl, hsz, hP, hK, hD0, hN, hU⟩ := hv
  have hx := B.exec
  have hb := B.bytes
  have hr := B.returns
  have hts := atoms_spec (ws := ws) B.pre
  have hown : s.vm.findClass y.cls = some m.cls := findClass_of_methodNamed B.named
  have hlocks := B.notSynchronized
  subst hsz
  have hD := hD0.self (sz := s.heap.size)
  have hl9 := lv_entry av (n := maxL) hl
  rw [lg_entry_eq]
  have X : rh_X p s m av.toArray c cc maxL y.cls ws G tys L (va_A w s.heap.size) := ⟨hx, hb, hml, hown, hts, hK, hN, fun q h => Or.inr h⟩
  refine body p e s m below meth c (va_A w s.heap.size) _ X ?_ ?_ _ hl9 ⟨hP, hD, va_S.rf⟩
  · intro H locs ls pc hk0 hd h
    refine vx_ret (W.widen (k := 1) (n := 6) (Nat.zero_le _) (Nat.zero_le _) ?_)
    exact W.vret hx hb hr (fun t ht hW => ⟨⟨(), rfl, hk0, by rw [ht]; exact h.1, va_K.moved hW.alike hK, h.2.1⟩, h.2.2.F ht⟩) h.2.2.2.2 hd
  · intro H locs ls pc ik ic E hls hk hE ht d0 d3 d4 d7 h
    exact rt_throw hlt X hU hlocks htab hrc hrs hfr hlo h hls hk hE ht d0 d3 d4 d7
def rt_nA : Nat → String := fun k => if k = 2 then "java/lang/IllegalStateException" else "java/lang/IllegalArgumentException"
def rt_nB : Nat → String := fun _ => "java/lang/IndexOutOfBoundsException"
theorem rt_o1 {ik : Nat} : vx_ot (Cond.classLink RX2 ik "java/lang/IllegalArgumentException") = true := rfl
theorem rt_bA : ∀ w ∈ (vx_at0 RX2 49 "java/lang/IllegalArgumentException" rn_names).filter (fun w => !goodWord w), w ∈ rn_C := fun _ h => List.mem_append_right _ (List.mem_append_left _ h)
theorem rt_bS : ∀ w ∈ (vx_at0 RX2 87 "java/lang/IllegalStateException" rn_names).filter (fun w => !goodWord w), w ∈ rn_C := fun _ h => List.mem_append_right _ (List.mem_append_right _ (List.mem_append_left _ h))
theorem rt_bI : ∀ w ∈ (vx_at0 RX2 104 "java/lang/IndexOutOfBoundsException" rn_names).filter (fun w => !goodWord w), w ∈ rn_C := fun _ h => List.mem_append_right _ (List.mem_append_right _ (List.mem_append_right _ h))
theorem rt_gA : ∀ w ∈ Cond.classLink RX2 47 "java/lang/IllegalArgumentException" :: Cond.initialized "java/lang/IllegalArgumentException" :: vx_at0 RX2 49 "java/lang/IllegalArgumentException" rn_names, vx_ot w = true := by decide +kernel
theorem rt_gS : ∀ w ∈ Cond.classLink RX2 85 "java/lang/IllegalStateException" :: Cond.initialized "java/lang/IllegalStateException" :: vx_at0 RX2 87 "java/lang/IllegalStateException" rn_names, vx_ot w = true := by decide +kernel
theorem rt_gI : ∀ w ∈ Cond.classLink RX2 102 "java/lang/IndexOutOfBoundsException" :: Cond.initialized "java/lang/IndexOutOfBoundsException" :: vx_at0 RX2 104 "java/lang/IndexOutOfBoundsException" rn_names, vx_ot w = true := by decide +kernel
end
section
/-! ===== constructors ===== -/
section RCT
variable {p : Program} {l : Launch} {e : Env} {R : Room} {s : State} {m : MethodId} {args : Array Value} {below : List Frame} {meth : Method} {c : Code} {H : Heap} {locs : List Loc} {cells slots : Nat} {Q : State → Prop}
variable {cc : ByteArray} {nL : Nat} {own : String} {Ts : List Cond} {G : va_G} {tys : List (ClassId × FieldType)} {L : List Cond} {A : Nat → Prop} {w w' : va_W} {pc : Nat} {rest : List Value} {ls : Array Slot}
theorem rk_newI (X : rh_X p s m args c cc nL own Ts G tys L A) (h : rh_W G A s H locs w) (t0 : Nat) {cy : ClassId} (ht : tys[t0]? = some (cy, .int)) (harr : Cond.arrayClass .int ∈ Ts) {atype : ArrayType} (hat : newarray.typeOf atype = .int) {z : Int32} {N : Nat} (hz : z = nI N) (hN : N ≤ 100000) (hc : cells + 1 ≤ R.cells) (hs : slots + N ≤ R.slots) (hdg : decode cc pc = .ok (.newarray atype, 2))
    (kk : ∀ (q : Nat) (H1 : Heap), rh_W G A s H1 locs (w ++ [(q, .inl (cy, N, .inl (fun _ => 0)))]) → W p l e R s m args below meth c H1 locs (cells + 1) (slots + N) Q (F0 m (pc + 2) ls (.ref q :: rest))) : W p l e R s m args below meth c H locs cells slots Q (F0 m pc ls (.int z :: rest)) := by
  subst hz
  refine va_newa X.1 X.2.1 (by rw [hat]; exact X.2.2.2.2.1 _ harr) hat X.2.2.2.2.2.1 h.1 h.2.1 h.2.2 X.2.2.2.2.2.2.2 (a0 := (N, .inl (fun _ => 0))) (fun cA => by rw [vp_cell_i]; rfl) (nI_pos (by omega)) (nI_clamp (by omega)) (by show N * 4 ≤ _; omega) hc hs hdg (fun q cA H1 k1 p1 d1 s1 => ?_)
  have e1 : s.vm.findClass ("[" ++ FieldType.int.toString) = some cA := (k1.2 tys.length (cA, .int) (by simp)).2
  have e2 : s.vm.findClass ("[" ++ FieldType.int.toString) = some cy := (X.2.2.2.2.2.1.2 t0 (cy, .int) ht).2
  cases Option.some.inj (e1.symm.trans e2)
  exact kk q H1 ⟨p1, d1, s1⟩
theorem rk_newZ (X : rh_X p s m args c cc nL own Ts G tys L A) (h : rh_W G A s H locs w) (t0 : Nat) {cy : ClassId} (ht : tys[t0]? = some (cy, .boolean)) (harr : Cond.arrayClass .boolean ∈ Ts) {atype : ArrayType} (hat : newarray.typeOf atype = .boolean) {z : Int32} {N : Nat} (hz : z = nI N) (hN : N ≤ 100000) (hc : cells + 1 ≤ R.cells) (hs : slots + N ≤ R.slots) (hdg : decode cc pc = .ok (.newarray atype, 2))
    (kk : ∀ (q : Nat) (H1 : Heap), rh_W G A s H1 locs (w ++ [(q, .inl (cy, N, .inl (fun _ => 0)))]) → W p l e R s m args below meth c H1 locs (cells + 1) (slots + N) Q (F0 m (pc + 2) ls (.ref q :: rest))) : W p l e R s m args below meth c H locs cells slots Q (F0 m pc ls (.int z :: rest)) := by
  subst hz
  refine va_newa X.1 X.2.1 (by rw [hat]; exact X.2.2.2.2.1 _ harr) hat X.2.2.2.2.2.1 h.1 h.2.1 h.2.2 X.2.2.2.2.2.2.2 (a0 := (N, .inl (fun _ => 0))) (fun cA => by rw [vp_cell_i]; rfl) (nI_pos (by omega)) (nI_clamp (by omega)) (by show N * 1 ≤ _; omega) hc hs hdg (fun q cA H1 k1 p1 d1 s1 => ?_)
  have e1 : s.vm.findClass ("[" ++ FieldType.boolean.toString) = some cA := (k1.2 tys.length (cA, .boolean) (by simp)).2
  have e2 : s.vm.findClass ("[" ++ FieldType.boolean.toString) = some cy := (X.2.2.2.2.2.1.2 t0 (cy, .boolean) ht).2
  cases Option.some.inj (e1.symm.trans e2)
  exact kk q H1 ⟨p1, d1, s1⟩
theorem rk_putF (X : rh_X p s m args c cc nL own Ts G tys L A) (h : rh_W G A s H locs w) (hini : meth.name = "<init>") {C : String} {T : u_T} {N ci index : Nat} (hin : ∀ w ∈ u_ws C T N, w ∈ Ts) (ty0 : Nat → FieldType) (hty : ∀ k, k < N → parseFieldDescriptor (T k).2.2.1 = some (ty0 k)) (hnm : ∀ a, a < N → ∀ b, b < N → a ≠ b → (T a).2.1 ≠ (T b).2.1) (q0 k : Nat) {a : Nat} {fs : List Value} (he : w[q0]? = some (a, .inr (ci, fs))) (hc : vwCl[ci]? = some (C, T, N)) (hk : k < N) (hlk : Cond.fieldLink own index (T k).1 (T k).2.1 (T k).2.2.1 ∈ Ts) (hfin : (T k).2.2.2 = true) (hdecl : (T k).1 = own) {v : Value} (hnv : narrow (ty0 k) v = v) (hfit : fits (ty0 k) v = true) (hlf : k < fs.length) (hdg : decode cc pc = .ok (.putfield index, 3))
    (kk : ∀ (H1 : Heap) (locs1 : List Loc), rh_W G A s H1 locs1 (w.set q0 (a, .inr (ci, fs.set k v))) → W p l e R s m args below meth c H1 locs1 cells slots Q (F0 m (pc + 3) ls rest)) : W p l e R s m args below meth c H locs cells slots Q (F0 m pc ls (v :: .ref a :: rest)) :=
  va_putF X.1 X.2.1 X.2.2.2.2.1 hin ty0 hty hnm X.2.2.2.1 X.2.2.2.2.2.1 h.1 h.2.1 h.2.2 q0 he hc k hk (X.2.2.2.2.1 _ hlk) (fun _ h9 => h9) hfin hini hdecl (hty k hk) hnv hfit hlf hdg (fun H1 locs1 a1 a2 a3 => kk H1 locs1 ⟨a1, a2, a3⟩)
end RCT
/-- a constructor's contract out of its walk -/
theorem rk_of {S : Type} {l : Launch} {y : MethodName} {ws ws' : List Cond} {rm : Room} {G : va_G} {tys : List (ClassId × FieldType)} {L : List Cond} {w : va_W} {w' : S → va_W} {av : List Value} {cc : ByteArray} {maxL mc ms : Nat} (hin : y.name = "<init>") (hy : plainName y.cls = true) (hw : ws = Cond.code y cc maxL none :: ws') (hl : (lg_sl av).length ≤ maxL)
    (body : ∀ (p : Program) (e : Env) (s : State) (m : MethodId) (below : List Frame) (meth : Method) (c : Code) (A : Nat → Prop) (Q : State → Prop), meth.name = "<init>" → rh_X p s m av.toArray c cc maxL y.cls ws G tys L A →
      (∀ (u : S) (H : Heap) (locs : List Loc) (ls : Array Slot) (pc : Nat), decode cc pc = .ok (.return_, 1) → rh_W G A s H locs (w' u) → W p l e rm s m av.toArray below meth c H locs mc ms Q (F0 m pc ls [])) →
      ∀ (ls : Array Slot), lv_has ls maxL (lv_args 0 av) → rh_W G A s s.heap [] w → W p l e rm s m av.toArray below meth c s.heap [] 0 0 Q (F0 m 0 ls [])) :
    ∀ sz : Nat, Met l y ws rm (rh_Pre G tys L w sz av) (va_Qv (S := S) (fun _ => True) (fun u t => rh_At G tys (va_A w sz) (w' u) t) (va_A w sz)) mc ms (va_A w sz) := by
  intro sz
  refine Met.ofW (cc := cc) (maxL := maxL) (ret := none) hy hw ?_
  intro p e s m args below meth c s₁ B hml hv
  obtain ⟨rfl, hsz, hP, hK, hD0, hN⟩ := hv
  have hx := B.exec
  have hb := B.bytes
  have hr := B.returns
  have hts := atoms_spec (ws := ws) B.pre
  have hown : s.vm.findClass y.cls = some m.cls := findClass_of_methodNamed B.named
  have hlocks := B.notSynchronized
  have hname : meth.name = "<init>" := (name_of_methodNamed B.named B.method).1.trans hin
  subst hsz
  have hD := hD0.self (sz := s.heap.size)
  have hl9 := lv_entry av (n := maxL) hl
  rw [lg_entry_eq]
  refine body p e s m below meth c (va_A w s.heap.size) _ hname ⟨hx, hb, hml, hown, hts, hK, hN, fun q h => Or.inr h⟩ ?_ _ hl9 ⟨hP, hD, va_S.rf⟩
  intro u H locs ls pc hd h
  exact W.vret hx hb hr (fun t ht hW => ⟨⟨u, rfl, trivial, by rw [ht]; exact h.1, va_K.moved hW.alike hK, h.2.1⟩, h.2.2.F ht⟩) h.2.2.2.2 hd
/-- the number of cells, the quantum: as the document has it -/
def ck_n (p1 : Int32) : Int32 := if p1 < 16 then 64 else if 400 < p1 then 64 else p1
def ck_q (p2 : Int32) : Int32 := if p2 < 1 then 4 else if 64 < p2 then 4 else p2
theorem ck_n_nat (p1 : Int32) : ∃ n : Nat, 16 ≤ n ∧ n ≤ 400 ∧ ck_n p1 = nI n := by
  unfold ck_n
  split
  · exact ⟨64, by decide, by decide, rfl⟩
  · next h1 =>
    split
    · exact ⟨64, by decide, by decide, rfl⟩
    · next h2 =>
      have a1 : ¬ p1.toInt < 16 := fun q => h1 (Int32.lt_iff_toInt_lt.mpr q)
      have a2 : ¬ 400 < p1.toInt := fun q => h2 (Int32.lt_iff_toInt_lt.mpr q)
      obtain ⟨j, hj, ej⟩ := nI_of (x := p1) (fun q => h1 (by
        have := Int32.lt_iff_toInt_lt.mp q
        exact Int32.lt_iff_toInt_lt.mpr (Int.lt_trans this (by decide))))
      have e3 : p1.toInt = (j : Int) := by rw [ej]; exact nI_toInt hj
      exact ⟨j, by omega, by omega, ej⟩
end
section
abbrev rmX0_init : Room := { frames := 1, cells := 2, slots := 1024, locals := 12 }
set_option maxRecDepth 100000 in
theorem iX0_init_X0 : ∀ w ∈ u_ws RX0 TX0 4, w ∈ wsX0_init := by decide +kernel
set_option maxHeartbeats 4000000 in
set_option maxRecDepth 100000 in
theorem kX0_init (l : Launch) (G : va_G) {cyI cyZ : ClassId} {x : Nat} : ∀ sz : Nat, Met l yX0_init wsX0_init rmX0_init (rh_Pre G [(cyI, .int), (cyZ, .boolean)] rn_C [(x, .inr (0, [.null, .null, .int 0, .int 0]))] sz [.ref x]) (va_Qv (S := Nat × Nat) (fun _ => True) (fun u t => rh_At G [(cyI, .int), (cyZ, .boolean)] (va_A [(x, .inr (0, [.null, .null, .int 0, .int 0]))] sz) [(x, .inr (0, [.ref u.1, .ref u.2, .int 0, .int 0])), (u.1, .inl (cyI, 512, .inl (fun _ => 0))), (u.2, .inl (cyI, 512, .inl (fun _ => 0)))] t) (va_A [(x, .inr (0, [.null, .null, .int 0, .int 0]))] sz)) 2 1024 (va_A [(x, .inr (0, [.null, .null, .int 0, .int 0]))] sz) := by
  refine rk_of rfl (by decide +kernel) rfl (Nat.le_of_ble_eq_true rfl) ?_
  intro p e s m below meth c A Q hini X ret ls hl h
  have hx := X.1
  have hb := X.2.1
  have hown := X.2.2.2.1
  have hts := X.2.2.2.2.1
  have hK := X.2.2.2.2.2.1
  have hNN := X.2.2.2.2.2.2.1.2
  refine lv_aload_n hx hb dX0_init_0 rfl (lv_at hl 0 rfl) ?_
  refine W.objInit hx hb hown (hts (.methodLink RX0 3 objectInit) (by decide +kernel)) (hts (.instanceMethod objectInit) (by decide +kernel)) (hts (.code objectInit ⟨#[0xb1]⟩ 1 none) (by decide +kernel)) rfl (hl.1.trans X.2.2.1.symm) rfl dX0_init_1 (Nat.le_of_ble_eq_true rfl) (Nat.le_of_ble_eq_true rfl) ?_
  refine W.eq (g2 := F0 m 4 ls []) rfl ?_
  refine lv_aload_n hx hb dX0_init_4 rfl (lv_at hl 0 rfl) ?_
  refine lv_sipush (v := 512) hx hb dX0_init_5 (by decide) ?_
  refine rk_newI X h 0 rfl (by decide +kernel) rfl rfl (by decide) (Nat.le_of_ble_eq_true rfl) (Nat.le_of_ble_eq_true rfl) dX0_init_8 (fun q0 H h => ?_)
  have h : rh_W G A s H _ ([(x, .inr (0, [.null, .null, .int 0, .int 0])), (q0, .inl (cyI, 512, .inl (fun _ => 0)))]) := h
  refine rk_putF X h hini iX0_init_X0 tyX0 tyX0_ok nmX0 0 0 rfl rfl (by decide) (by decide +kernel) rfl rfl rfl rfl (Nat.le_of_ble_eq_true rfl) dX0_init_10 (fun H locs h => ?_)
  have h : rh_W G A s H _ ([(x, .inr (0, [.ref q0, .null, .int 0, .int 0])), (q0, .inl (cyI, 512, .inl (fun _ => 0)))]) := h
  refine lv_aload_n hx hb dX0_init_13 rfl (lv_at hl 0 rfl) ?_
  refine lv_sipush (v := 512) hx hb dX0_init_14 (by decide) ?_
  refine rk_newI X h 0 rfl (by decide +kernel) rfl rfl (by decide) (Nat.le_of_ble_eq_true rfl) (Nat.le_of_ble_eq_true rfl) dX0_init_17 (fun q1 H h => ?_)
  have h : rh_W G A s H _ ([(x, .inr (0, [.ref q0, .null, .int 0, .int 0])), (q0, .inl (cyI, 512, .inl (fun _ => 0))), (q1, .inl (cyI, 512, .inl (fun _ => 0)))]) := h
  refine rk_putF X h hini iX0_init_X0 tyX0 tyX0_ok nmX0 0 1 rfl rfl (by decide) (by decide +kernel) rfl rfl rfl rfl (Nat.le_of_ble_eq_true rfl) dX0_init_19 (fun H locs h => ?_)
  have h : rh_W G A s H _ ([(x, .inr (0, [.ref q0, .ref q1, .int 0, .int 0])), (q0, .inl (cyI, 512, .inl (fun _ => 0))), (q1, .inl (cyI, 512, .inl (fun _ => 0)))]) := h
  exact ret (q0, q1) _ _ _ _ dX0_init_22 h
abbrev rmX1_init : Room := { frames := 1, cells := 3, slots := 1200, locals := 12 }
set_option maxRecDepth 100000 in
theorem iX1_init_X1 : ∀ w ∈ u_ws RX1 TX1 5, w ∈ wsX1_init := by decide +kernel
set_option maxHeartbeats 4000000 in
set_option maxRecDepth 100000 in
theorem kX1_init (l : Launch) (G : va_G) {cyI cyZ : ClassId} {x n : Nat} {p1 p2 : Int32} (hn : p2 = nI n) (hn4 : n ≤ 400) : ∀ sz : Nat, Met l yX1_init wsX1_init rmX1_init (rh_Pre G [(cyI, .int), (cyZ, .boolean)] rn_C [(x, .inr (1, [.int 0, .null, .null, .null, .int 0]))] sz [.ref x, .int p1, .int p2]) (va_Qv (S := Nat × Nat × Nat) (fun _ => True) (fun u t => rh_At G [(cyI, .int), (cyZ, .boolean)] (va_A [(x, .inr (1, [.int 0, .null, .null, .null, .int 0]))] sz) [(x, .inr (1, [.int p1, .ref u.1, .ref u.2.1, .ref u.2.2, .int 0])), (u.1, .inl (cyI, n, .inl (fun _ => 0))), (u.2.1, .inl (cyI, n, .inl (fun _ => 0))), (u.2.2, .inl (cyI, n, .inl (fun _ => 0)))] t) (va_A [(x, .inr (1, [.int 0, .null, .null, .null, .int 0]))] sz)) 3 1200 (va_A [(x, .inr (1, [.int 0, .null, .null, .null, .int 0]))] sz) := by
  refine rk_of rfl (by decide +kernel) rfl (Nat.le_of_ble_eq_true rfl) ?_
  intro p e s m below meth c A Q hini X ret ls hl h
  have hx := X.1
  have hb := X.2.1
  have hown := X.2.2.2.1
  have hts := X.2.2.2.2.1
  have hK := X.2.2.2.2.2.1
  have hNN := X.2.2.2.2.2.2.1.2
  refine lv_aload_n hx hb dX1_init_0 rfl (lv_at hl 0 rfl) ?_
  refine W.objInit hx hb hown (hts (.methodLink RX1 3 objectInit) (by decide +kernel)) (hts (.instanceMethod objectInit) (by decide +kernel)) (hts (.code objectInit ⟨#[0xb1]⟩ 1 none) (by decide +kernel)) rfl (hl.1.trans X.2.2.1.symm) rfl dX1_init_1 (Nat.le_of_ble_eq_true rfl) (Nat.le_of_ble_eq_true rfl) ?_
  refine W.eq (g2 := F0 m 4 ls []) rfl ?_
  refine lv_aload_n hx hb dX1_init_4 rfl (lv_at hl 0 rfl) ?_
  refine lv_iload_n hx hb dX1_init_5 rfl (lv_at hl 1 rfl) ?_
  refine rk_putF X h hini iX1_init_X1 tyX1 tyX1_ok nmX1 0 0 rfl rfl (by decide) (by decide +kernel) rfl rfl rfl rfl (Nat.le_of_ble_eq_true rfl) dX1_init_6 (fun H locs h => ?_)
  have h : rh_W G A s H _ ([(x, .inr (1, [.int p1, .null, .null, .null, .int 0]))]) := h
  refine lv_aload_n hx hb dX1_init_9 rfl (lv_at hl 0 rfl) ?_
  refine lv_iload_n hx hb dX1_init_10 rfl (lv_at hl 2 rfl) ?_
  refine rk_newI X h 0 rfl (by decide +kernel) rfl hn (by omega) (Nat.le_of_ble_eq_true rfl) (by show _ ≤ 1200; omega) dX1_init_11 (fun q0 H h => ?_)
  have h : rh_W G A s H _ ([(x, .inr (1, [.int p1, .null, .null, .null, .int 0])), (q0, .inl (cyI, n, .inl (fun _ => 0)))]) := h
  refine rk_putF X h hini iX1_init_X1 tyX1 tyX1_ok nmX1 0 1 rfl rfl (by decide) (by decide +kernel) rfl rfl rfl rfl (Nat.le_of_ble_eq_true rfl) dX1_init_13 (fun H locs h => ?_)
  have h : rh_W G A s H _ ([(x, .inr (1, [.int p1, .ref q0, .null, .null, .int 0])), (q0, .inl (cyI, n, .inl (fun _ => 0)))]) := h
  refine lv_aload_n hx hb dX1_init_16 rfl (lv_at hl 0 rfl) ?_
  refine lv_iload_n hx hb dX1_init_17 rfl (lv_at hl 2 rfl) ?_
  refine rk_newI X h 0 rfl (by decide +kernel) rfl hn (by omega) (Nat.le_of_ble_eq_true rfl) (by show _ ≤ 1200; omega) dX1_init_18 (fun q1 H h => ?_)
  have h : rh_W G A s H _ ([(x, .inr (1, [.int p1, .ref q0, .null, .null, .int 0])), (q0, .inl (cyI, n, .inl (fun _ => 0))), (q1, .inl (cyI, n, .inl (fun _ => 0)))]) := h
  refine rk_putF X h hini iX1_init_X1 tyX1 tyX1_ok nmX1 0 2 rfl rfl (by decide) (by decide +kernel) rfl rfl rfl rfl (Nat.le_of_ble_eq_true rfl) dX1_init_20 (fun H locs h => ?_)
  have h : rh_W G A s H _ ([(x, .inr (1, [.int p1, .ref q0, .ref q1, .null, .int 0])), (q0, .inl (cyI, n, .inl (fun _ => 0))), (q1, .inl (cyI, n, .inl (fun _ => 0)))]) := h
  refine lv_aload_n hx hb dX1_init_23 rfl (lv_at hl 0 rfl) ?_
  refine lv_iload_n hx hb dX1_init_24 rfl (lv_at hl 2 rfl) ?_
  refine rk_newI X h 0 rfl (by decide +kernel) rfl hn (by omega) (Nat.le_of_ble_eq_true rfl) (by show _ ≤ 1200; omega) dX1_init_25 (fun q2 H h => ?_)
  have h : rh_W G A s H _ ([(x, .inr (1, [.int p1, .ref q0, .ref q1, .null, .int 0])), (q0, .inl (cyI, n, .inl (fun _ => 0))), (q1, .inl (cyI, n, .inl (fun _ => 0))), (q2, .inl (cyI, n, .inl (fun _ => 0)))]) := h
  refine rk_putF X h hini iX1_init_X1 tyX1 tyX1_ok nmX1 0 3 rfl rfl (by decide) (by decide +kernel) rfl rfl rfl rfl (Nat.le_of_ble_eq_true rfl) dX1_init_27 (fun H locs h => ?_)
  have h : rh_W G A s H _ ([(x, .inr (1, [.int p1, .ref q0, .ref q1, .ref q2, .int 0])), (q0, .inl (cyI, n, .inl (fun _ => 0))), (q1, .inl (cyI, n, .inl (fun _ => 0))), (q2, .inl (cyI, n, .inl (fun _ => 0)))]) := h
  refine W.widen (k := 3) (n := 1200) (by omega) (by omega) ?_
  exact ret (q0, q1, q2) _ _ _ _ dX1_init_30 h
set_option maxHeartbeats 4000000 in
set_option maxRecDepth 100000 in
theorem jX2_n {p : Program} {l : Launch} {e : Env} {R : Room} {s : State} {m : MethodId} {args : Array Value} {below : List Frame} {meth : Method} {c : Code} {H : Heap} {locs : List Loc} {cells slots : Nat} {Q : State → Prop} {ls : Array Slot} {rest : List Value} {v : Int32} (hx : p.tables.exec = Jvm.exec) (hb : c.code = cX2_init) (hl : ls[1]? = some (.val (.int v))) (kk : W p l e R s m args below meth c H locs cells slots Q (F0 m 51 ls (.int (ck_n v) :: rest))) : W p l e R s m args below meth c H locs cells slots Q (F0 m 32 ls rest) := by
  refine lv_iload_n hx hb dX2_init_32 rfl hl ?_
  refine lv_bipush (v := 16) hx hb dX2_init_33 (by decide) ?_
  refine lv_icmp_lt (tgt := 49) hx hb dX2_init_35 (by decide) (fun c1 => ?_) (fun c1 => ?_)
  · refine lv_bipush (v := 64) hx hb dX2_init_49 (by decide) ?_
    rw [show ck_n v = 64 by unfold ck_n; rw [if_pos c1]] at kk
    exact kk
  · refine lv_iload_n hx hb dX2_init_38 rfl hl ?_
    refine lv_sipush (v := 400) hx hb dX2_init_39 (by decide) ?_
    refine lv_icmp_gt (tgt := 49) hx hb dX2_init_42 (by decide) (fun c2 => ?_) (fun c2 => ?_)
    · refine lv_bipush (v := 64) hx hb dX2_init_49 (by decide) ?_
      rw [show ck_n v = 64 by unfold ck_n; rw [if_neg c1, if_pos c2]] at kk
      exact kk
    · refine lv_iload_n hx hb dX2_init_45 rfl hl ?_
      refine lv_goto (tgt := 51) hx hb dX2_init_46 (by decide) ?_
      rw [show ck_n v = v by unfold ck_n; rw [if_neg c1, if_neg c2]] at kk
      exact kk
set_option maxHeartbeats 4000000 in
set_option maxRecDepth 100000 in
theorem jX2_q {p : Program} {l : Launch} {e : Env} {R : Room} {s : State} {m : MethodId} {args : Array Value} {below : List Frame} {meth : Method} {c : Code} {H : Heap} {locs : List Loc} {cells slots : Nat} {Q : State → Prop} {ls : Array Slot} {rest : List Value} {v : Int32} (hx : p.tables.exec = Jvm.exec) (hb : c.code = cX2_init) (hl : ls[2]? = some (.val (.int v))) (kk : W p l e R s m args below meth c H locs cells slots Q (F0 m 71 ls (.int (ck_q v) :: rest))) : W p l e R s m args below meth c H locs cells slots Q (F0 m 55 ls rest) := by
  refine lv_iload_n hx hb dX2_init_55 rfl hl ?_
  refine lv_iconst (v := 1) hx hb dX2_init_56 (by decide) ?_
  refine lv_icmp_lt (tgt := 70) hx hb dX2_init_57 (by decide) (fun c1 => ?_) (fun c1 => ?_)
  · refine lv_iconst (v := 4) hx hb dX2_init_70 (by decide) ?_
    rw [show ck_q v = 4 by unfold ck_q; rw [if_pos c1]] at kk
    exact kk
  · refine lv_iload_n hx hb dX2_init_60 rfl hl ?_
    refine lv_bipush (v := 64) hx hb dX2_init_61 (by decide) ?_
    refine lv_icmp_gt (tgt := 70) hx hb dX2_init_63 (by decide) (fun c2 => ?_) (fun c2 => ?_)
    · refine lv_iconst (v := 4) hx hb dX2_init_70 (by decide) ?_
      rw [show ck_q v = 4 by unfold ck_q; rw [if_neg c1, if_pos c2]] at kk
      exact kk
    · refine lv_iload_n hx hb dX2_init_66 rfl hl ?_
      refine lv_goto (tgt := 71) hx hb dX2_init_67 (by decide) ?_
      rw [show ck_q v = v by unfold ck_q; rw [if_neg c1, if_neg c2]] at kk
      exact kk
set_option maxHeartbeats 4000000 in
set_option maxRecDepth 100000 in
theorem jX3_n {p : Program} {l : Launch} {e : Env} {R : Room} {s : State} {m : MethodId} {args : Array Value} {below : List Frame} {meth : Method} {c : Code} {H : Heap} {locs : List Loc} {cells slots : Nat} {Q : State → Prop} {ls : Array Slot} {rest : List Value} {v : Int32} (hx : p.tables.exec = Jvm.exec) (hb : c.code = cX3_init) (hl : ls[1]? = some (.val (.int v))) (kk : W p l e R s m args below meth c H locs cells slots Q (F0 m 92 ls (.int (ck_n v) :: rest))) : W p l e R s m args below meth c H locs cells slots Q (F0 m 73 ls rest) := by
  refine lv_iload_n hx hb dX3_init_73 rfl hl ?_
  refine lv_bipush (v := 16) hx hb dX3_init_74 (by decide) ?_
  refine lv_icmp_lt (tgt := 90) hx hb dX3_init_76 (by decide) (fun c1 => ?_) (fun c1 => ?_)
  · refine lv_bipush (v := 64) hx hb dX3_init_90 (by decide) ?_
    rw [show ck_n v = 64 by unfold ck_n; rw [if_pos c1]] at kk
    exact kk
  · refine lv_iload_n hx hb dX3_init_79 rfl hl ?_
    refine lv_sipush (v := 400) hx hb dX3_init_80 (by decide) ?_
    refine lv_icmp_gt (tgt := 90) hx hb dX3_init_83 (by decide) (fun c2 => ?_) (fun c2 => ?_)
    · refine lv_bipush (v := 64) hx hb dX3_init_90 (by decide) ?_
      rw [show ck_n v = 64 by unfold ck_n; rw [if_neg c1, if_pos c2]] at kk
      exact kk
    · refine lv_iload_n hx hb dX3_init_86 rfl hl ?_
      refine lv_goto (tgt := 92) hx hb dX3_init_87 (by decide) ?_
      rw [show ck_n v = v by unfold ck_n; rw [if_neg c1, if_neg c2]] at kk
      exact kk
set_option maxHeartbeats 4000000 in
set_option maxRecDepth 100000 in
theorem jX3_q {p : Program} {l : Launch} {e : Env} {R : Room} {s : State} {m : MethodId} {args : Array Value} {below : List Frame} {meth : Method} {c : Code} {H : Heap} {locs : List Loc} {cells slots : Nat} {Q : State → Prop} {ls : Array Slot} {rest : List Value} {v : Int32} (hx : p.tables.exec = Jvm.exec) (hb : c.code = cX3_init) (hl : ls[2]? = some (.val (.int v))) (kk : W p l e R s m args below meth c H locs cells slots Q (F0 m 112 ls (.int (ck_q v) :: rest))) : W p l e R s m args below meth c H locs cells slots Q (F0 m 96 ls rest) := by
  refine lv_iload_n hx hb dX3_init_96 rfl hl ?_
  refine lv_iconst (v := 1) hx hb dX3_init_97 (by decide) ?_
  refine lv_icmp_lt (tgt := 111) hx hb dX3_init_98 (by decide) (fun c1 => ?_) (fun c1 => ?_)
  · refine lv_iconst (v := 4) hx hb dX3_init_111 (by decide) ?_
    rw [show ck_q v = 4 by unfold ck_q; rw [if_pos c1]] at kk
    exact kk
  · refine lv_iload_n hx hb dX3_init_101 rfl hl ?_
    refine lv_bipush (v := 64) hx hb dX3_init_102 (by decide) ?_
    refine lv_icmp_gt (tgt := 111) hx hb dX3_init_104 (by decide) (fun c2 => ?_) (fun c2 => ?_)
    · refine lv_iconst (v := 4) hx hb dX3_init_111 (by decide) ?_
      rw [show ck_q v = 4 by unfold ck_q; rw [if_neg c1, if_pos c2]] at kk
      exact kk
    · refine lv_iload_n hx hb dX3_init_107 rfl hl ?_
      refine lv_goto (tgt := 112) hx hb dX3_init_108 (by decide) ?_
      rw [show ck_q v = v by unfold ck_q; rw [if_neg c1, if_neg c2]] at kk
      exact kk
abbrev rmX3_init : Room := { frames := 1, cells := 8, slots := 10626, locals := 12 }
set_option maxRecDepth 100000 in
theorem iX3_init_X3 : ∀ w ∈ u_ws RX3 TX3 22, w ∈ wsX3_init := by decide +kernel
/-- the reference's numbers at the start -/
def m_f0 (p1 p2 : Int32) : Nat → Int32 := fun k => if k = 1 then ck_n p1 else if k = 2 then ck_q p2 else 0
def z_g0 : Nat → Nat → Int32 := fun _ _ => 0
set_option maxHeartbeats 4000000 in
set_option maxRecDepth 100000 in
theorem kX3_init (l : Launch) (G : va_G) {cyI cyZ : ClassId} {x : Nat} {p1 p2 : Int32} : ∀ sz : Nat, Met l yX3_init wsX3_init rmX3_init (rh_Pre G [(cyI, .int), (cyZ, .boolean)] rn_C [(x, .inr (3, [.int 0, .int 0, .int 0, .null, .null, .null, .null, .int 0, .null, .null, .int 0, .int 0, .int 0, .int 0, .null, .null, .int 0, .int 0, .int 0, .int 0, .int 0, .int 0]))] sz [.ref x, .int p1, .int p2]) (va_Qv (S := Nat → Nat) (fun _ => True) (fun ad t => rh_At G [(cyI, .int), (cyZ, .boolean)] (va_A [(x, .inr (3, [.int 0, .int 0, .int 0, .null, .null, .null, .null, .int 0, .null, .null, .int 0, .int 0, .int 0, .int 0, .null, .null, .int 0, .int 0, .int 0, .int 0, .int 0, .int 0]))] sz) (mw cyI cyZ x ad (m_f0 p1 p2) z_g0) t) (va_A [(x, .inr (3, [.int 0, .int 0, .int 0, .null, .null, .null, .null, .int 0, .null, .null, .int 0, .int 0, .int 0, .int 0, .null, .null, .int 0, .int 0, .int 0, .int 0, .int 0, .int 0]))] sz)) 8 10626 (va_A [(x, .inr (3, [.int 0, .int 0, .int 0, .null, .null, .null, .null, .int 0, .null, .null, .int 0, .int 0, .int 0, .int 0, .null, .null, .int 0, .int 0, .int 0, .int 0, .int 0, .int 0]))] sz) := by
  refine rk_of rfl (by decide +kernel) rfl (Nat.le_of_ble_eq_true rfl) ?_
  intro p e s m below meth c A Q hini X ret ls hl h
  have hx := X.1
  have hb := X.2.1
  have hown := X.2.2.2.1
  have hts := X.2.2.2.2.1
  have hK := X.2.2.2.2.2.1
  have hNN := X.2.2.2.2.2.2.1.2
  refine lv_aload_n hx hb dX3_init_0 rfl (lv_at hl 0 rfl) ?_
  refine W.objInit hx hb hown (hts (.methodLink RX3 1 objectInit) (by decide +kernel)) (hts (.instanceMethod objectInit) (by decide +kernel)) (hts (.code objectInit ⟨#[0xb1]⟩ 1 none) (by decide +kernel)) rfl (hl.1.trans X.2.2.1.symm) rfl dX3_init_1 (Nat.le_of_ble_eq_true rfl) (Nat.le_of_ble_eq_true rfl) ?_
  refine W.eq (g2 := F0 m 4 ls []) rfl ?_
  refine lv_aload_n hx hb dX3_init_4 rfl (lv_at hl 0 rfl) ?_
  refine lv_sipush (v := 800) hx hb dX3_init_5 (by decide) ?_
  refine rk_newI X h 0 rfl (by decide +kernel) rfl rfl (by decide) (Nat.le_of_ble_eq_true rfl) (Nat.le_of_ble_eq_true rfl) dX3_init_8 (fun q0 H h => ?_)
  have h : rh_W G A s H _ ([(x, .inr (3, [.int 0, .int 0, .int 0, .null, .null, .null, .null, .int 0, .null, .null, .int 0, .int 0, .int 0, .int 0, .null, .null, .int 0, .int 0, .int 0, .int 0, .int 0, .int 0])), (q0, .inl (cyI, 800, .inl (fun _ => 0)))]) := h
  refine rk_putF X h hini iX3_init_X3 tyX3 tyX3_ok nmX3 0 3 rfl rfl (by decide) (by decide +kernel) rfl rfl rfl rfl (Nat.le_of_ble_eq_true rfl) dX3_init_10 (fun H locs h => ?_)
  have h : rh_W G A s H _ ([(x, .inr (3, [.int 0, .int 0, .int 0, .ref q0, .null, .null, .null, .int 0, .null, .null, .int 0, .int 0, .int 0, .int 0, .null, .null, .int 0, .int 0, .int 0, .int 0, .int 0, .int 0])), (q0, .inl (cyI, 800, .inl (fun _ => 0)))]) := h
  refine lv_aload_n hx hb dX3_init_13 rfl (lv_at hl 0 rfl) ?_
  refine lv_sipush (v := 800) hx hb dX3_init_14 (by decide) ?_
  refine rk_newI X h 0 rfl (by decide +kernel) rfl rfl (by decide) (Nat.le_of_ble_eq_true rfl) (Nat.le_of_ble_eq_true rfl) dX3_init_17 (fun q1 H h => ?_)
  have h : rh_W G A s H _ ([(x, .inr (3, [.int 0, .int 0, .int 0, .ref q0, .null, .null, .null, .int 0, .null, .null, .int 0, .int 0, .int 0, .int 0, .null, .null, .int 0, .int 0, .int 0, .int 0, .int 0, .int 0])), (q0, .inl (cyI, 800, .inl (fun _ => 0))), (q1, .inl (cyI, 800, .inl (fun _ => 0)))]) := h
  refine rk_putF X h hini iX3_init_X3 tyX3 tyX3_ok nmX3 0 4 rfl rfl (by decide) (by decide +kernel) rfl rfl rfl rfl (Nat.le_of_ble_eq_true rfl) dX3_init_19 (fun H locs h => ?_)
  have h : rh_W G A s H _ ([(x, .inr (3, [.int 0, .int 0, .int 0, .ref q0, .ref q1, .null, .null, .int 0, .null, .null, .int 0, .int 0, .int 0, .int 0, .null, .null, .int 0, .int 0, .int 0, .int 0, .int 0, .int 0])), (q0, .inl (cyI, 800, .inl (fun _ => 0))), (q1, .inl (cyI, 800, .inl (fun _ => 0)))]) := h
  refine lv_aload_n hx hb dX3_init_22 rfl (lv_at hl 0 rfl) ?_
  refine lv_sipush (v := 800) hx hb dX3_init_23 (by decide) ?_
  refine rk_newI X h 0 rfl (by decide +kernel) rfl rfl (by decide) (Nat.le_of_ble_eq_true rfl) (Nat.le_of_ble_eq_true rfl) dX3_init_26 (fun q2 H h => ?_)
  have h : rh_W G A s H _ ([(x, .inr (3, [.int 0, .int 0, .int 0, .ref q0, .ref q1, .null, .null, .int 0, .null, .null, .int 0, .int 0, .int 0, .int 0, .null, .null, .int 0, .int 0, .int 0, .int 0, .int 0, .int 0])), (q0, .inl (cyI, 800, .inl (fun _ => 0))), (q1, .inl (cyI, 800, .inl (fun _ => 0))), (q2, .inl (cyI, 800, .inl (fun _ => 0)))]) := h
  refine rk_putF X h hini iX3_init_X3 tyX3 tyX3_ok nmX3 0 5 rfl rfl (by decide) (by decide +kernel) rfl rfl rfl rfl (Nat.le_of_ble_eq_true rfl) dX3_init_28 (fun H locs h => ?_)
  have h : rh_W G A s H _ ([(x, .inr (3, [.int 0, .int 0, .int 0, .ref q0, .ref q1, .ref q2, .null, .int 0, .null, .null, .int 0, .int 0, .int 0, .int 0, .null, .null, .int 0, .int 0, .int 0, .int 0, .int 0, .int 0])), (q0, .inl (cyI, 800, .inl (fun _ => 0))), (q1, .inl (cyI, 800, .inl (fun _ => 0))), (q2, .inl (cyI, 800, .inl (fun _ => 0)))]) := h
  refine lv_aload_n hx hb dX3_init_31 rfl (lv_at hl 0 rfl) ?_
  refine lv_iconst (v := 2) hx hb dX3_init_32 (by decide) ?_
  refine rk_newI X h 0 rfl (by decide +kernel) rfl rfl (by decide) (Nat.le_of_ble_eq_true rfl) (Nat.le_of_ble_eq_true rfl) dX3_init_33 (fun q3 H h => ?_)
  have h : rh_W G A s H _ ([(x, .inr (3, [.int 0, .int 0, .int 0, .ref q0, .ref q1, .ref q2, .null, .int 0, .null, .null, .int 0, .int 0, .int 0, .int 0, .null, .null, .int 0, .int 0, .int 0, .int 0, .int 0, .int 0])), (q0, .inl (cyI, 800, .inl (fun _ => 0))), (q1, .inl (cyI, 800, .inl (fun _ => 0))), (q2, .inl (cyI, 800, .inl (fun _ => 0))), (q3, .inl (cyI, 2, .inl (fun _ => 0)))]) := h
  refine rk_putF X h hini iX3_init_X3 tyX3 tyX3_ok nmX3 0 6 rfl rfl (by decide) (by decide +kernel) rfl rfl rfl rfl (Nat.le_of_ble_eq_true rfl) dX3_init_35 (fun H locs h => ?_)
  have h : rh_W G A s H _ ([(x, .inr (3, [.int 0, .int 0, .int 0, .ref q0, .ref q1, .ref q2, .ref q3, .int 0, .null, .null, .int 0, .int 0, .int 0, .int 0, .null, .null, .int 0, .int 0, .int 0, .int 0, .int 0, .int 0])), (q0, .inl (cyI, 800, .inl (fun _ => 0))), (q1, .inl (cyI, 800, .inl (fun _ => 0))), (q2, .inl (cyI, 800, .inl (fun _ => 0))), (q3, .inl (cyI, 2, .inl (fun _ => 0)))]) := h
  refine lv_aload_n hx hb dX3_init_38 rfl (lv_at hl 0 rfl) ?_
  refine lv_bipush (v := 16) hx hb dX3_init_39 (by decide) ?_
  refine rk_newZ X h 1 rfl (by decide +kernel) rfl rfl (by decide) (Nat.le_of_ble_eq_true rfl) (Nat.le_of_ble_eq_true rfl) dX3_init_41 (fun q4 H h => ?_)
  have h : rh_W G A s H _ ([(x, .inr (3, [.int 0, .int 0, .int 0, .ref q0, .ref q1, .ref q2, .ref q3, .int 0, .null, .null, .int 0, .int 0, .int 0, .int 0, .null, .null, .int 0, .int 0, .int 0, .int 0, .int 0, .int 0])), (q0, .inl (cyI, 800, .inl (fun _ => 0))), (q1, .inl (cyI, 800, .inl (fun _ => 0))), (q2, .inl (cyI, 800, .inl (fun _ => 0))), (q3, .inl (cyI, 2, .inl (fun _ => 0))), (q4, .inl (cyZ, 16, .inl (fun _ => 0)))]) := h
  refine rk_putF X h hini iX3_init_X3 tyX3 tyX3_ok nmX3 0 8 rfl rfl (by decide) (by decide +kernel) rfl rfl rfl rfl (Nat.le_of_ble_eq_true rfl) dX3_init_43 (fun H locs h => ?_)
  have h : rh_W G A s H _ ([(x, .inr (3, [.int 0, .int 0, .int 0, .ref q0, .ref q1, .ref q2, .ref q3, .int 0, .ref q4, .null, .int 0, .int 0, .int 0, .int 0, .null, .null, .int 0, .int 0, .int 0, .int 0, .int 0, .int 0])), (q0, .inl (cyI, 800, .inl (fun _ => 0))), (q1, .inl (cyI, 800, .inl (fun _ => 0))), (q2, .inl (cyI, 800, .inl (fun _ => 0))), (q3, .inl (cyI, 2, .inl (fun _ => 0))), (q4, .inl (cyZ, 16, .inl (fun _ => 0)))]) := h
  refine lv_aload_n hx hb dX3_init_46 rfl (lv_at hl 0 rfl) ?_
  refine lv_bipush (v := 16) hx hb dX3_init_47 (by decide) ?_
  refine rk_newI X h 0 rfl (by decide +kernel) rfl rfl (by decide) (Nat.le_of_ble_eq_true rfl) (Nat.le_of_ble_eq_true rfl) dX3_init_49 (fun q5 H h => ?_)
  have h : rh_W G A s H _ ([(x, .inr (3, [.int 0, .int 0, .int 0, .ref q0, .ref q1, .ref q2, .ref q3, .int 0, .ref q4, .null, .int 0, .int 0, .int 0, .int 0, .null, .null, .int 0, .int 0, .int 0, .int 0, .int 0, .int 0])), (q0, .inl (cyI, 800, .inl (fun _ => 0))), (q1, .inl (cyI, 800, .inl (fun _ => 0))), (q2, .inl (cyI, 800, .inl (fun _ => 0))), (q3, .inl (cyI, 2, .inl (fun _ => 0))), (q4, .inl (cyZ, 16, .inl (fun _ => 0))), (q5, .inl (cyI, 16, .inl (fun _ => 0)))]) := h
  refine rk_putF X h hini iX3_init_X3 tyX3 tyX3_ok nmX3 0 9 rfl rfl (by decide) (by decide +kernel) rfl rfl rfl rfl (Nat.le_of_ble_eq_true rfl) dX3_init_51 (fun H locs h => ?_)
  have h : rh_W G A s H _ ([(x, .inr (3, [.int 0, .int 0, .int 0, .ref q0, .ref q1, .ref q2, .ref q3, .int 0, .ref q4, .ref q5, .int 0, .int 0, .int 0, .int 0, .null, .null, .int 0, .int 0, .int 0, .int 0, .int 0, .int 0])), (q0, .inl (cyI, 800, .inl (fun _ => 0))), (q1, .inl (cyI, 800, .inl (fun _ => 0))), (q2, .inl (cyI, 800, .inl (fun _ => 0))), (q3, .inl (cyI, 2, .inl (fun _ => 0))), (q4, .inl (cyZ, 16, .inl (fun _ => 0))), (q5, .inl (cyI, 16, .inl (fun _ => 0)))]) := h
  refine lv_aload_n hx hb dX3_init_54 rfl (lv_at hl 0 rfl) ?_
  refine lv_sipush (v := 4096) hx hb dX3_init_55 (by decide) ?_
  refine rk_newI X h 0 rfl (by decide +kernel) rfl rfl (by decide) (Nat.le_of_ble_eq_true rfl) (Nat.le_of_ble_eq_true rfl) dX3_init_58 (fun q6 H h => ?_)
  have h : rh_W G A s H _ ([(x, .inr (3, [.int 0, .int 0, .int 0, .ref q0, .ref q1, .ref q2, .ref q3, .int 0, .ref q4, .ref q5, .int 0, .int 0, .int 0, .int 0, .null, .null, .int 0, .int 0, .int 0, .int 0, .int 0, .int 0])), (q0, .inl (cyI, 800, .inl (fun _ => 0))), (q1, .inl (cyI, 800, .inl (fun _ => 0))), (q2, .inl (cyI, 800, .inl (fun _ => 0))), (q3, .inl (cyI, 2, .inl (fun _ => 0))), (q4, .inl (cyZ, 16, .inl (fun _ => 0))), (q5, .inl (cyI, 16, .inl (fun _ => 0))), (q6, .inl (cyI, 4096, .inl (fun _ => 0)))]) := h
  refine rk_putF X h hini iX3_init_X3 tyX3 tyX3_ok nmX3 0 14 rfl rfl (by decide) (by decide +kernel) rfl rfl rfl rfl (Nat.le_of_ble_eq_true rfl) dX3_init_60 (fun H locs h => ?_)
  have h : rh_W G A s H _ ([(x, .inr (3, [.int 0, .int 0, .int 0, .ref q0, .ref q1, .ref q2, .ref q3, .int 0, .ref q4, .ref q5, .int 0, .int 0, .int 0, .int 0, .ref q6, .null, .int 0, .int 0, .int 0, .int 0, .int 0, .int 0])), (q0, .inl (cyI, 800, .inl (fun _ => 0))), (q1, .inl (cyI, 800, .inl (fun _ => 0))), (q2, .inl (cyI, 800, .inl (fun _ => 0))), (q3, .inl (cyI, 2, .inl (fun _ => 0))), (q4, .inl (cyZ, 16, .inl (fun _ => 0))), (q5, .inl (cyI, 16, .inl (fun _ => 0))), (q6, .inl (cyI, 4096, .inl (fun _ => 0)))]) := h
  refine lv_aload_n hx hb dX3_init_63 rfl (lv_at hl 0 rfl) ?_
  refine lv_sipush (v := 4096) hx hb dX3_init_64 (by decide) ?_
  refine rk_newI X h 0 rfl (by decide +kernel) rfl rfl (by decide) (Nat.le_of_ble_eq_true rfl) (Nat.le_of_ble_eq_true rfl) dX3_init_67 (fun q7 H h => ?_)
  have h : rh_W G A s H _ ([(x, .inr (3, [.int 0, .int 0, .int 0, .ref q0, .ref q1, .ref q2, .ref q3, .int 0, .ref q4, .ref q5, .int 0, .int 0, .int 0, .int 0, .ref q6, .null, .int 0, .int 0, .int 0, .int 0, .int 0, .int 0])), (q0, .inl (cyI, 800, .inl (fun _ => 0))), (q1, .inl (cyI, 800, .inl (fun _ => 0))), (q2, .inl (cyI, 800, .inl (fun _ => 0))), (q3, .inl (cyI, 2, .inl (fun _ => 0))), (q4, .inl (cyZ, 16, .inl (fun _ => 0))), (q5, .inl (cyI, 16, .inl (fun _ => 0))), (q6, .inl (cyI, 4096, .inl (fun _ => 0))), (q7, .inl (cyI, 4096, .inl (fun _ => 0)))]) := h
  refine rk_putF X h hini iX3_init_X3 tyX3 tyX3_ok nmX3 0 15 rfl rfl (by decide) (by decide +kernel) rfl rfl rfl rfl (Nat.le_of_ble_eq_true rfl) dX3_init_69 (fun H locs h => ?_)
  have h : rh_W G A s H _ ([(x, .inr (3, [.int 0, .int 0, .int 0, .ref q0, .ref q1, .ref q2, .ref q3, .int 0, .ref q4, .ref q5, .int 0, .int 0, .int 0, .int 0, .ref q6, .ref q7, .int 0, .int 0, .int 0, .int 0, .int 0, .int 0])), (q0, .inl (cyI, 800, .inl (fun _ => 0))), (q1, .inl (cyI, 800, .inl (fun _ => 0))), (q2, .inl (cyI, 800, .inl (fun _ => 0))), (q3, .inl (cyI, 2, .inl (fun _ => 0))), (q4, .inl (cyZ, 16, .inl (fun _ => 0))), (q5, .inl (cyI, 16, .inl (fun _ => 0))), (q6, .inl (cyI, 4096, .inl (fun _ => 0))), (q7, .inl (cyI, 4096, .inl (fun _ => 0)))]) := h
  refine lv_aload_n hx hb dX3_init_72 rfl (lv_at hl 0 rfl) ?_
  refine jX3_n hx hb (lv_at hl 1 rfl) ?_
  refine rk_putF X h hini iX3_init_X3 tyX3 tyX3_ok nmX3 0 1 rfl rfl (by decide) (by decide +kernel) rfl rfl rfl rfl (Nat.le_of_ble_eq_true rfl) dX3_init_92 (fun H locs h => ?_)
  have h : rh_W G A s H _ ([(x, .inr (3, [.int 0, .int (ck_n p1), .int 0, .ref q0, .ref q1, .ref q2, .ref q3, .int 0, .ref q4, .ref q5, .int 0, .int 0, .int 0, .int 0, .ref q6, .ref q7, .int 0, .int 0, .int 0, .int 0, .int 0, .int 0])), (q0, .inl (cyI, 800, .inl (fun _ => 0))), (q1, .inl (cyI, 800, .inl (fun _ => 0))), (q2, .inl (cyI, 800, .inl (fun _ => 0))), (q3, .inl (cyI, 2, .inl (fun _ => 0))), (q4, .inl (cyZ, 16, .inl (fun _ => 0))), (q5, .inl (cyI, 16, .inl (fun _ => 0))), (q6, .inl (cyI, 4096, .inl (fun _ => 0))), (q7, .inl (cyI, 4096, .inl (fun _ => 0)))]) := h
  refine lv_aload_n hx hb dX3_init_95 rfl (lv_at hl 0 rfl) ?_
  refine jX3_q hx hb (lv_at hl 2 rfl) ?_
  refine rk_putF X h hini iX3_init_X3 tyX3 tyX3_ok nmX3 0 2 rfl rfl (by decide) (by decide +kernel) rfl rfl rfl rfl (Nat.le_of_ble_eq_true rfl) dX3_init_112 (fun H locs h => ?_)
  have h : rh_W G A s H _ ([(x, .inr (3, [.int 0, .int (ck_n p1), .int (ck_q p2), .ref q0, .ref q1, .ref q2, .ref q3, .int 0, .ref q4, .ref q5, .int 0, .int 0, .int 0, .int 0, .ref q6, .ref q7, .int 0, .int 0, .int 0, .int 0, .int 0, .int 0])), (q0, .inl (cyI, 800, .inl (fun _ => 0))), (q1, .inl (cyI, 800, .inl (fun _ => 0))), (q2, .inl (cyI, 800, .inl (fun _ => 0))), (q3, .inl (cyI, 2, .inl (fun _ => 0))), (q4, .inl (cyZ, 16, .inl (fun _ => 0))), (q5, .inl (cyI, 16, .inl (fun _ => 0))), (q6, .inl (cyI, 4096, .inl (fun _ => 0))), (q7, .inl (cyI, 4096, .inl (fun _ => 0)))]) := h
  exact ret (fun k => [x, q0, q1, q2, q3, q4, q5, q6, q7].getD k 0) _ _ _ _ dX3_init_115 h
abbrev rmX2_init : Room := { frames := 2, cells := 13, slots := 3470, locals := 34 }
set_option maxRecDepth 100000 in
theorem iX2_init_X0 : ∀ w ∈ u_ws RX0 TX0 4, w ∈ wsX2_init := by decide +kernel
set_option maxRecDepth 100000 in
theorem iX2_init_X1 : ∀ w ∈ u_ws RX1 TX1 5, w ∈ wsX2_init := by decide +kernel
set_option maxRecDepth 100000 in
theorem iX2_init_X2 : ∀ w ∈ u_ws RX2 TX2 15, w ∈ wsX2_init := by decide +kernel
/-- the class's numbers at the start -/
def c_f0 (p1 p2 : Int32) : Nat → Int32 := fun k => if k = 0 then ck_n p1 else if k = 1 then ck_q p2 else if k = 14 then 1 else 0
set_option maxHeartbeats 4000000 in
set_option maxRecDepth 100000 in
theorem kX2_init (l : Launch) (G : va_G) {cyI cyZ : ClassId} {x n : Nat} {p1 p2 : Int32} (hn : ck_n p1 = nI n) (hn4 : n ≤ 400) : ∀ sz : Nat, Met l yX2_init wsX2_init rmX2_init (rh_Pre G [(cyI, .int), (cyZ, .boolean)] rn_C [(x, .inr (2, [.int 0, .int 0, .null, .null, .null, .null, .null, .int 0, .int 0, .int 0, .int 0, .int 0, .int 0, .int 0, .int 0]))] sz [.ref x, .int p1, .int p2]) (va_Qv (S := Nat → Nat) (fun _ => True) (fun ad t => rh_At G [(cyI, .int), (cyZ, .boolean)] (va_A [(x, .inr (2, [.int 0, .int 0, .null, .null, .null, .null, .null, .int 0, .int 0, .int 0, .int 0, .int 0, .int 0, .int 0, .int 0]))] sz) (cw cyI cyZ n x ad (c_f0 p1 p2) z_g0) t) (va_A [(x, .inr (2, [.int 0, .int 0, .null, .null, .null, .null, .null, .int 0, .int 0, .int 0, .int 0, .int 0, .int 0, .int 0, .int 0]))] sz)) 13 3470 (va_A [(x, .inr (2, [.int 0, .int 0, .null, .null, .null, .null, .null, .int 0, .int 0, .int 0, .int 0, .int 0, .int 0, .int 0, .int 0]))] sz) := by
  refine rk_of rfl (by decide +kernel) rfl (Nat.le_of_ble_eq_true rfl) ?_
  intro p e s m below meth c A Q hini X ret ls hl h
  have hx := X.1
  have hb := X.2.1
  have hown := X.2.2.2.1
  have hts := X.2.2.2.2.1
  have hK := X.2.2.2.2.2.1
  have hNN := X.2.2.2.2.2.2.1.2
  refine lv_aload_n hx hb dX2_init_0 rfl (lv_at hl 0 rfl) ?_
  refine W.objInit hx hb hown (hts (.methodLink RX2 1 objectInit) (by decide +kernel)) (hts (.instanceMethod objectInit) (by decide +kernel)) (hts (.code objectInit ⟨#[0xb1]⟩ 1 none) (by decide +kernel)) rfl (hl.1.trans X.2.2.1.symm) rfl dX2_init_1 (Nat.le_of_ble_eq_true rfl) (Nat.le_of_ble_eq_true rfl) ?_
  refine W.eq (g2 := F0 m 4 ls []) rfl ?_
  refine lv_aload_n hx hb dX2_init_4 rfl (lv_at hl 0 rfl) ?_
  refine lv_bipush (v := 16) hx hb dX2_init_5 (by decide) ?_
  refine rk_newZ X h 1 rfl (by decide +kernel) rfl rfl (by decide) (Nat.le_of_ble_eq_true rfl) (Nat.le_of_ble_eq_true rfl) dX2_init_7 (fun q0 H h => ?_)
  have h : rh_W G A s H _ ([(x, .inr (2, [.int 0, .int 0, .null, .null, .null, .null, .null, .int 0, .int 0, .int 0, .int 0, .int 0, .int 0, .int 0, .int 0])), (q0, .inl (cyZ, 16, .inl (fun _ => 0)))]) := h
  refine rk_putF X h hini iX2_init_X2 tyX2 tyX2_ok nmX2 0 2 rfl rfl (by decide) (by decide +kernel) rfl rfl rfl rfl (Nat.le_of_ble_eq_true rfl) dX2_init_9 (fun H locs h => ?_)
  have h : rh_W G A s H _ ([(x, .inr (2, [.int 0, .int 0, .ref q0, .null, .null, .null, .null, .int 0, .int 0, .int 0, .int 0, .int 0, .int 0, .int 0, .int 0])), (q0, .inl (cyZ, 16, .inl (fun _ => 0)))]) := h
  refine lv_aload_n hx hb dX2_init_12 rfl (lv_at hl 0 rfl) ?_
  refine lv_bipush (v := 16) hx hb dX2_init_13 (by decide) ?_
  refine rk_newI X h 0 rfl (by decide +kernel) rfl rfl (by decide) (Nat.le_of_ble_eq_true rfl) (Nat.le_of_ble_eq_true rfl) dX2_init_15 (fun q1 H h => ?_)
  have h : rh_W G A s H _ ([(x, .inr (2, [.int 0, .int 0, .ref q0, .null, .null, .null, .null, .int 0, .int 0, .int 0, .int 0, .int 0, .int 0, .int 0, .int 0])), (q0, .inl (cyZ, 16, .inl (fun _ => 0))), (q1, .inl (cyI, 16, .inl (fun _ => 0)))]) := h
  refine rk_putF X h hini iX2_init_X2 tyX2 tyX2_ok nmX2 0 3 rfl rfl (by decide) (by decide +kernel) rfl rfl rfl rfl (Nat.le_of_ble_eq_true rfl) dX2_init_17 (fun H locs h => ?_)
  have h : rh_W G A s H _ ([(x, .inr (2, [.int 0, .int 0, .ref q0, .ref q1, .null, .null, .null, .int 0, .int 0, .int 0, .int 0, .int 0, .int 0, .int 0, .int 0])), (q0, .inl (cyZ, 16, .inl (fun _ => 0))), (q1, .inl (cyI, 16, .inl (fun _ => 0)))]) := h
  refine lv_aload_n hx hb dX2_init_20 rfl (lv_at hl 0 rfl) ?_
  refine va_new (ci := 0) (fs := [.null, .null, .int 0, .int 0]) (C := RX0) (T := TX0) (N := 4) hx hb hts iX2_init_X0 tyX0 tyX0_ok hown (hts (.classLink RX2 17 RX0) (by decide +kernel)) (hts (.instantiable RX0 4) (by decide +kernel)) (hts (.initialized RX0) (by decide +kernel)) hK h.1 h.2.1 h.2.2 X.2.2.2.2.2.2.2 rfl (fun j hj => by rcases (show j = 0 ∨ j = 1 ∨ j = 2 ∨ j = 3 by omega) with rfl | rfl | rfl | rfl <;> rfl) (Nat.le_of_ble_eq_true rfl) (Nat.le_of_ble_eq_true rfl) dX2_init_21 (fun q2 H hP9 hD9 hS9 => ?_)
  have h : rh_W G A s H _ _ := ⟨hP9, hD9, hS9⟩
  have h : rh_W G A s H _ ([(x, .inr (2, [.int 0, .int 0, .ref q0, .ref q1, .null, .null, .null, .int 0, .int 0, .int 0, .int 0, .int 0, .int 0, .int 0, .int 0])), (q0, .inl (cyZ, 16, .inl (fun _ => 0))), (q1, .inl (cyI, 16, .inl (fun _ => 0))), (q2, .inr (0, [.null, .null, .int 0, .int 0]))]) := h
  refine lv_dup hx hb dX2_init_24 rfl ?_
  have hPc := h.1.sub (ws' := [(q2, .inr (0, [.null, .null, .int 0, .int 0]))]) [3] rfl
  have hDc := h.2.1.sub (ws' := [(q2, .inr (0, [.null, .null, .int 0, .int 0]))]) [3] (by decide) rfl
  have hFc := va_free (wc := [(q2, .inr (0, [.null, .null, .int 0, .int 0]))]) h.2.1 h.2.2 X.2.2.2.2.2.2.2 [3] rfl
  refine va_callv (va_runIN (As := []) (rest := [.ref q2, .ref x]) ⟨hx, hb, X.2.2.1, hown, hts⟩ (kX0_init l G (x := q2) H.size) ⟨va_cnB (host := RX2) 0 hts ggX2_init_X0_init rfl rfl rfl (hNN _ (by decide +kernel)) (hts (.initialized RX0) (by decide +kernel)) (by decide +kernel) ⟨Nat.le_of_ble_eq_true rfl, Nat.le_of_ble_eq_true rfl⟩, rfl, hts (.instanceMethod yX0_init) (by decide +kernel)⟩ ⟨rh_blind, fun U hU hW => ⟨rfl, by rw [hU], by rw [hU]; exact hPc, va_K.moved hW.alike hK, hDc.weaken (fun _ _ _ _ => trivial), rn.warm hW X.2.2.2.2.2.2.1⟩⟩ rfl rfl hl.1 rfl (lv_room (Nat.le_of_ble_eq_true rfl)) dX2_init_25 ⟨Nat.le_of_ble_eq_true rfl, Nat.le_of_ble_eq_true rfl⟩) h.2.2 (fun q _ h => hFc q h) hFc (fun u t H1 locs ht hvm hw hB hz1 hk1 hS => ?_)
  obtain ⟨a0, a1⟩ := u
  obtain ⟨hP1, hK1, hD1⟩ := hB
  rw [ht] at hP1
  have h9 := va_join (wr := [(x, .inr (2, [.int 0, .int 0, .ref q0, .ref q1, .null, .null, .null, .int 0, .int 0, .int 0, .int 0, .int 0, .int 0, .int 0, .int 0])), (q0, .inl (cyZ, 16, .inl (fun _ => 0))), (q1, .inl (cyI, 16, .inl (fun _ => 0)))]) h.1 h.2.1 [3] [0, 1, 2] rfl rfl (by decide) (by decide) hk1 hFc hP1 hD1
  have h : rh_W G A s H1 _ ([(x, .inr (2, [.int 0, .int 0, .ref q0, .ref q1, .null, .null, .null, .int 0, .int 0, .int 0, .int 0, .int 0, .int 0, .int 0, .int 0])), (q0, .inl (cyZ, 16, .inl (fun _ => 0))), (q1, .inl (cyI, 16, .inl (fun _ => 0))), (q2, .inr (0, [.ref a0, .ref a1, .int 0, .int 0])), (a0, .inl (cyI, 512, .inl (fun _ => 0))), (a1, .inl (cyI, 512, .inl (fun _ => 0)))]) := ⟨h9.1, h9.2, hS⟩
  refine rk_putF X h hini iX2_init_X2 tyX2 tyX2_ok nmX2 0 4 rfl rfl (by decide) (by decide +kernel) rfl rfl rfl rfl (Nat.le_of_ble_eq_true rfl) dX2_init_28 (fun H locs h => ?_)
  have h : rh_W G A s H _ ([(x, .inr (2, [.int 0, .int 0, .ref q0, .ref q1, .ref q2, .null, .null, .int 0, .int 0, .int 0, .int 0, .int 0, .int 0, .int 0, .int 0])), (q0, .inl (cyZ, 16, .inl (fun _ => 0))), (q1, .inl (cyI, 16, .inl (fun _ => 0))), (q2, .inr (0, [.ref a0, .ref a1, .int 0, .int 0])), (a0, .inl (cyI, 512, .inl (fun _ => 0))), (a1, .inl (cyI, 512, .inl (fun _ => 0)))]) := h
  refine lv_aload_n hx hb dX2_init_31 rfl (lv_at hl 0 rfl) ?_
  refine jX2_n hx hb (lv_at hl 1 rfl) ?_
  refine rk_putF X h hini iX2_init_X2 tyX2 tyX2_ok nmX2 0 0 rfl rfl (by decide) (by decide +kernel) rfl rfl rfl rfl (Nat.le_of_ble_eq_true rfl) dX2_init_51 (fun H locs h => ?_)
  have h : rh_W G A s H _ ([(x, .inr (2, [.int (ck_n p1), .int 0, .ref q0, .ref q1, .ref q2, .null, .null, .int 0, .int 0, .int 0, .int 0, .int 0, .int 0, .int 0, .int 0])), (q0, .inl (cyZ, 16, .inl (fun _ => 0))), (q1, .inl (cyI, 16, .inl (fun _ => 0))), (q2, .inr (0, [.ref a0, .ref a1, .int 0, .int 0])), (a0, .inl (cyI, 512, .inl (fun _ => 0))), (a1, .inl (cyI, 512, .inl (fun _ => 0)))]) := h
  refine lv_aload_n hx hb dX2_init_54 rfl (lv_at hl 0 rfl) ?_
  refine jX2_q hx hb (lv_at hl 2 rfl) ?_
  refine rk_putF X h hini iX2_init_X2 tyX2 tyX2_ok nmX2 0 1 rfl rfl (by decide) (by decide +kernel) rfl rfl rfl rfl (Nat.le_of_ble_eq_true rfl) dX2_init_71 (fun H locs h => ?_)
  have h : rh_W G A s H _ ([(x, .inr (2, [.int (ck_n p1), .int (ck_q p2), .ref q0, .ref q1, .ref q2, .null, .null, .int 0, .int 0, .int 0, .int 0, .int 0, .int 0, .int 0, .int 0])), (q0, .inl (cyZ, 16, .inl (fun _ => 0))), (q1, .inl (cyI, 16, .inl (fun _ => 0))), (q2, .inr (0, [.ref a0, .ref a1, .int 0, .int 0])), (a0, .inl (cyI, 512, .inl (fun _ => 0))), (a1, .inl (cyI, 512, .inl (fun _ => 0)))]) := h
  refine lv_aload_n hx hb dX2_init_74 rfl (lv_at hl 0 rfl) ?_
  refine va_new (ci := 1) (fs := [.int 0, .null, .null, .null, .int 0]) (C := RX1) (T := TX1) (N := 5) hx hb hts iX2_init_X1 tyX1 tyX1_ok hown (hts (.classLink RX2 31 RX1) (by decide +kernel)) (hts (.instantiable RX1 5) (by decide +kernel)) (hts (.initialized RX1) (by decide +kernel)) hK h.1 h.2.1 h.2.2 X.2.2.2.2.2.2.2 rfl (fun j hj => by rcases (show j = 0 ∨ j = 1 ∨ j = 2 ∨ j = 3 ∨ j = 4 by omega) with rfl | rfl | rfl | rfl | rfl <;> rfl) (Nat.le_of_ble_eq_true rfl) (Nat.le_of_ble_eq_true rfl) dX2_init_75 (fun q3 H hP9 hD9 hS9 => ?_)
  have h : rh_W G A s H _ _ := ⟨hP9, hD9, hS9⟩
  have h : rh_W G A s H _ ([(x, .inr (2, [.int (ck_n p1), .int (ck_q p2), .ref q0, .ref q1, .ref q2, .null, .null, .int 0, .int 0, .int 0, .int 0, .int 0, .int 0, .int 0, .int 0])), (q0, .inl (cyZ, 16, .inl (fun _ => 0))), (q1, .inl (cyI, 16, .inl (fun _ => 0))), (q2, .inr (0, [.ref a0, .ref a1, .int 0, .int 0])), (a0, .inl (cyI, 512, .inl (fun _ => 0))), (a1, .inl (cyI, 512, .inl (fun _ => 0))), (q3, .inr (1, [.int 0, .null, .null, .null, .int 0]))]) := h
  refine lv_dup hx hb dX2_init_78 rfl ?_
  refine lv_iconst (v := 0) hx hb dX2_init_79 (by decide) ?_
  refine lv_aload_n hx hb dX2_init_80 rfl (lv_at hl 0 rfl) ?_
  refine rh_get X h (v := .int (ck_n p1)) iX2_init_X2 0 0 rfl rfl (by decide) (by decide +kernel) rfl dX2_init_81 ?_
  have hPc := h.1.sub (ws' := [(q3, .inr (1, [.int 0, .null, .null, .null, .int 0]))]) [6] rfl
  have hDc := h.2.1.sub (ws' := [(q3, .inr (1, [.int 0, .null, .null, .null, .int 0]))]) [6] (by decide) rfl
  have hFc := va_free (wc := [(q3, .inr (1, [.int 0, .null, .null, .null, .int 0]))]) h.2.1 h.2.2 X.2.2.2.2.2.2.2 [6] rfl
  refine va_callv (va_runIN (As := [.int 0, .int (ck_n p1)]) (rest := [.ref q3, .ref x]) ⟨hx, hb, X.2.2.1, hown, hts⟩ (kX1_init l G (x := q3) (p1 := 0) hn hn4 H.size) ⟨va_cnB (host := RX2) 2 hts ggX2_init_X1_init rfl rfl rfl (hNN _ (by decide +kernel)) (hts (.initialized RX1) (by decide +kernel)) (by decide +kernel) ⟨Nat.le_of_ble_eq_true rfl, Nat.le_of_ble_eq_true rfl⟩, rfl, hts (.instanceMethod yX1_init) (by decide +kernel)⟩ ⟨rh_blind, fun U hU hW => ⟨rfl, by rw [hU], by rw [hU]; exact hPc, va_K.moved hW.alike hK, hDc.weaken (fun _ _ _ _ => trivial), rn.warm hW X.2.2.2.2.2.2.1⟩⟩ rfl rfl hl.1 rfl (lv_room (Nat.le_of_ble_eq_true rfl)) dX2_init_84 ⟨Nat.le_of_ble_eq_true rfl, Nat.le_of_ble_eq_true rfl⟩) h.2.2 (fun q _ h => hFc q h) hFc (fun u t H1 locs ht hvm hw hB hz1 hk1 hS => ?_)
  obtain ⟨b0, b1, b2⟩ := u
  obtain ⟨hP1, hK1, hD1⟩ := hB
  rw [ht] at hP1
  have h9 := va_join (wr := [(x, .inr (2, [.int (ck_n p1), .int (ck_q p2), .ref q0, .ref q1, .ref q2, .null, .null, .int 0, .int 0, .int 0, .int 0, .int 0, .int 0, .int 0, .int 0])), (q0, .inl (cyZ, 16, .inl (fun _ => 0))), (q1, .inl (cyI, 16, .inl (fun _ => 0))), (q2, .inr (0, [.ref a0, .ref a1, .int 0, .int 0])), (a0, .inl (cyI, 512, .inl (fun _ => 0))), (a1, .inl (cyI, 512, .inl (fun _ => 0)))]) h.1 h.2.1 [6] [0, 1, 2, 3, 4, 5] rfl rfl (by decide) (by decide) hk1 hFc hP1 hD1
  have h : rh_W G A s H1 _ ([(x, .inr (2, [.int (ck_n p1), .int (ck_q p2), .ref q0, .ref q1, .ref q2, .null, .null, .int 0, .int 0, .int 0, .int 0, .int 0, .int 0, .int 0, .int 0])), (q0, .inl (cyZ, 16, .inl (fun _ => 0))), (q1, .inl (cyI, 16, .inl (fun _ => 0))), (q2, .inr (0, [.ref a0, .ref a1, .int 0, .int 0])), (a0, .inl (cyI, 512, .inl (fun _ => 0))), (a1, .inl (cyI, 512, .inl (fun _ => 0))), (q3, .inr (1, [.int 0, .ref b0, .ref b1, .ref b2, .int 0])), (b0, .inl (cyI, n, .inl (fun _ => 0))), (b1, .inl (cyI, n, .inl (fun _ => 0))), (b2, .inl (cyI, n, .inl (fun _ => 0)))]) := ⟨h9.1, h9.2, hS⟩
  refine rh_put X h iX2_init_X2 tyX2 tyX2_ok nmX2 0 5 rfl rfl (by decide) (by decide +kernel) rfl rfl rfl (Nat.le_of_ble_eq_true rfl) dX2_init_87 (fun H locs h => ?_)
  have h : rh_W G A s H _ ([(x, .inr (2, [.int (ck_n p1), .int (ck_q p2), .ref q0, .ref q1, .ref q2, .ref q3, .null, .int 0, .int 0, .int 0, .int 0, .int 0, .int 0, .int 0, .int 0])), (q0, .inl (cyZ, 16, .inl (fun _ => 0))), (q1, .inl (cyI, 16, .inl (fun _ => 0))), (q2, .inr (0, [.ref a0, .ref a1, .int 0, .int 0])), (a0, .inl (cyI, 512, .inl (fun _ => 0))), (a1, .inl (cyI, 512, .inl (fun _ => 0))), (q3, .inr (1, [.int 0, .ref b0, .ref b1, .ref b2, .int 0])), (b0, .inl (cyI, n, .inl (fun _ => 0))), (b1, .inl (cyI, n, .inl (fun _ => 0))), (b2, .inl (cyI, n, .inl (fun _ => 0)))]) := h
  refine lv_aload_n hx hb dX2_init_90 rfl (lv_at hl 0 rfl) ?_
  refine va_new (ci := 1) (fs := [.int 0, .null, .null, .null, .int 0]) (C := RX1) (T := TX1) (N := 5) hx hb hts iX2_init_X1 tyX1 tyX1_ok hown (hts (.classLink RX2 31 RX1) (by decide +kernel)) (hts (.instantiable RX1 5) (by decide +kernel)) (hts (.initialized RX1) (by decide +kernel)) hK h.1 h.2.1 h.2.2 X.2.2.2.2.2.2.2 rfl (fun j hj => by rcases (show j = 0 ∨ j = 1 ∨ j = 2 ∨ j = 3 ∨ j = 4 by omega) with rfl | rfl | rfl | rfl | rfl <;> rfl) (Nat.le_of_ble_eq_true rfl) (Nat.le_of_ble_eq_true rfl) dX2_init_91 (fun q4 H hP9 hD9 hS9 => ?_)
  have h : rh_W G A s H _ _ := ⟨hP9, hD9, hS9⟩
  have h : rh_W G A s H _ ([(x, .inr (2, [.int (ck_n p1), .int (ck_q p2), .ref q0, .ref q1, .ref q2, .ref q3, .null, .int 0, .int 0, .int 0, .int 0, .int 0, .int 0, .int 0, .int 0])), (q0, .inl (cyZ, 16, .inl (fun _ => 0))), (q1, .inl (cyI, 16, .inl (fun _ => 0))), (q2, .inr (0, [.ref a0, .ref a1, .int 0, .int 0])), (a0, .inl (cyI, 512, .inl (fun _ => 0))), (a1, .inl (cyI, 512, .inl (fun _ => 0))), (q3, .inr (1, [.int 0, .ref b0, .ref b1, .ref b2, .int 0])), (b0, .inl (cyI, n, .inl (fun _ => 0))), (b1, .inl (cyI, n, .inl (fun _ => 0))), (b2, .inl (cyI, n, .inl (fun _ => 0))), (q4, .inr (1, [.int 0, .null, .null, .null, .int 0]))]) := h
  refine lv_dup hx hb dX2_init_94 rfl ?_
  refine lv_iconst (v := 1) hx hb dX2_init_95 (by decide) ?_
  refine lv_aload_n hx hb dX2_init_96 rfl (lv_at hl 0 rfl) ?_
  refine rh_get X h (v := .int (ck_n p1)) iX2_init_X2 0 0 rfl rfl (by decide) (by decide +kernel) rfl dX2_init_97 ?_
  have hPc := h.1.sub (ws' := [(q4, .inr (1, [.int 0, .null, .null, .null, .int 0]))]) [10] rfl
  have hDc := h.2.1.sub (ws' := [(q4, .inr (1, [.int 0, .null, .null, .null, .int 0]))]) [10] (by decide) rfl
  have hFc := va_free (wc := [(q4, .inr (1, [.int 0, .null, .null, .null, .int 0]))]) h.2.1 h.2.2 X.2.2.2.2.2.2.2 [10] rfl
  refine va_callv (va_runIN (As := [.int 1, .int (ck_n p1)]) (rest := [.ref q4, .ref x]) ⟨hx, hb, X.2.2.1, hown, hts⟩ (kX1_init l G (x := q4) (p1 := 1) hn hn4 H.size) ⟨va_cnB (host := RX2) 2 hts ggX2_init_X1_init rfl rfl rfl (hNN _ (by decide +kernel)) (hts (.initialized RX1) (by decide +kernel)) (by decide +kernel) ⟨Nat.le_of_ble_eq_true rfl, Nat.le_of_ble_eq_true rfl⟩, rfl, hts (.instanceMethod yX1_init) (by decide +kernel)⟩ ⟨rh_blind, fun U hU hW => ⟨rfl, by rw [hU], by rw [hU]; exact hPc, va_K.moved hW.alike hK, hDc.weaken (fun _ _ _ _ => trivial), rn.warm hW X.2.2.2.2.2.2.1⟩⟩ rfl rfl hl.1 rfl (lv_room (Nat.le_of_ble_eq_true rfl)) dX2_init_100 ⟨Nat.le_of_ble_eq_true rfl, Nat.le_of_ble_eq_true rfl⟩) h.2.2 (fun q _ h => hFc q h) hFc (fun u t H1 locs ht hvm hw hB hz1 hk1 hS => ?_)
  obtain ⟨d0, d1, d2⟩ := u
  obtain ⟨hP1, hK1, hD1⟩ := hB
  rw [ht] at hP1
  have h9 := va_join (wr := [(x, .inr (2, [.int (ck_n p1), .int (ck_q p2), .ref q0, .ref q1, .ref q2, .ref q3, .null, .int 0, .int 0, .int 0, .int 0, .int 0, .int 0, .int 0, .int 0])), (q0, .inl (cyZ, 16, .inl (fun _ => 0))), (q1, .inl (cyI, 16, .inl (fun _ => 0))), (q2, .inr (0, [.ref a0, .ref a1, .int 0, .int 0])), (a0, .inl (cyI, 512, .inl (fun _ => 0))), (a1, .inl (cyI, 512, .inl (fun _ => 0))), (q3, .inr (1, [.int 0, .ref b0, .ref b1, .ref b2, .int 0])), (b0, .inl (cyI, n, .inl (fun _ => 0))), (b1, .inl (cyI, n, .inl (fun _ => 0))), (b2, .inl (cyI, n, .inl (fun _ => 0)))]) h.1 h.2.1 [10] [0, 1, 2, 3, 4, 5, 6, 7, 8, 9] rfl rfl (by decide) (by decide) hk1 hFc hP1 hD1
  have h : rh_W G A s H1 _ ([(x, .inr (2, [.int (ck_n p1), .int (ck_q p2), .ref q0, .ref q1, .ref q2, .ref q3, .null, .int 0, .int 0, .int 0, .int 0, .int 0, .int 0, .int 0, .int 0])), (q0, .inl (cyZ, 16, .inl (fun _ => 0))), (q1, .inl (cyI, 16, .inl (fun _ => 0))), (q2, .inr (0, [.ref a0, .ref a1, .int 0, .int 0])), (a0, .inl (cyI, 512, .inl (fun _ => 0))), (a1, .inl (cyI, 512, .inl (fun _ => 0))), (q3, .inr (1, [.int 0, .ref b0, .ref b1, .ref b2, .int 0])), (b0, .inl (cyI, n, .inl (fun _ => 0))), (b1, .inl (cyI, n, .inl (fun _ => 0))), (b2, .inl (cyI, n, .inl (fun _ => 0))), (q4, .inr (1, [.int 1, .ref d0, .ref d1, .ref d2, .int 0])), (d0, .inl (cyI, n, .inl (fun _ => 0))), (d1, .inl (cyI, n, .inl (fun _ => 0))), (d2, .inl (cyI, n, .inl (fun _ => 0)))]) := ⟨h9.1, h9.2, hS⟩
  refine rh_put X h iX2_init_X2 tyX2 tyX2_ok nmX2 0 6 rfl rfl (by decide) (by decide +kernel) rfl rfl rfl (Nat.le_of_ble_eq_true rfl) dX2_init_103 (fun H locs h => ?_)
  have h : rh_W G A s H _ ([(x, .inr (2, [.int (ck_n p1), .int (ck_q p2), .ref q0, .ref q1, .ref q2, .ref q3, .ref q4, .int 0, .int 0, .int 0, .int 0, .int 0, .int 0, .int 0, .int 0])), (q0, .inl (cyZ, 16, .inl (fun _ => 0))), (q1, .inl (cyI, 16, .inl (fun _ => 0))), (q2, .inr (0, [.ref a0, .ref a1, .int 0, .int 0])), (a0, .inl (cyI, 512, .inl (fun _ => 0))), (a1, .inl (cyI, 512, .inl (fun _ => 0))), (q3, .inr (1, [.int 0, .ref b0, .ref b1, .ref b2, .int 0])), (b0, .inl (cyI, n, .inl (fun _ => 0))), (b1, .inl (cyI, n, .inl (fun _ => 0))), (b2, .inl (cyI, n, .inl (fun _ => 0))), (q4, .inr (1, [.int 1, .ref d0, .ref d1, .ref d2, .int 0])), (d0, .inl (cyI, n, .inl (fun _ => 0))), (d1, .inl (cyI, n, .inl (fun _ => 0))), (d2, .inl (cyI, n, .inl (fun _ => 0)))]) := h
  have h : rh_W G A s H _ (cw cyI cyZ n x (fun k => [x, q2, q3, q4, q0, q1, a0, a1, b0, b1, b2, d0, d1, d2].getD k 0) (c_f0 p1 p2) z_g0) := ⟨h.1.sub [0, 3, 6, 10, 1, 2, 4, 5, 7, 8, 9, 11, 12, 13] rfl, h.2.1.sub [0, 3, 6, 10, 1, 2, 4, 5, 7, 8, 9, 11, 12, 13] (by decide) rfl, h.2.2⟩
  exact ret (fun k => [x, q2, q3, q4, q0, q1, a0, a1, b0, b1, b2, d0, d1, d2].getD k 0) _ _ _ _ dX2_init_106 h
end
