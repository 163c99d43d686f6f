/-! ===== methods that may throw: contracts over one world ===== -/
def rt_U (A : Nat → Prop) (U : State) (H : Heap) : Prop := vx_Zq Bundle.tN "UNASSIGNED_STACK" Bundle.steD A U H ∧ vx_Zq Bundle.tN "SUPPRESSED_SENTINEL" Bundle.listD A U H
theorem rt_U.moved {A : Nat → Prop} {u U : State} {H : Heap} (hvm : u.vm.Alike U.vm) (h : rt_U A u H) : rt_U A U H := ⟨vx_Zq.moved hvm h.1, vx_Zq.moved hvm h.2⟩
theorem rt_U.kept {A : Nat → Prop} {U : State} {H H1 : Heap} (h : rt_U A U H) (hq : ∀ a : Nat, a < H.size → ¬ A a → H1[a]? = H[a]?) : rt_U A U H1 := ⟨h.1.kept hq, h.2.kept hq⟩
theorem rt_U.narrow {A B : Nat → Prop} {U : State} {H : Heap} (h : rt_U A U H) (hAB : ∀ q, B q → A q) : rt_U B U H := ⟨h.1.narrow hAB, h.2.narrow hAB⟩
def rt_Pre (G : va_G) (tys : List (ClassId × FieldType)) (L : List Cond) (w : va_W) (sz : Nat) (av : List Value) : Array Value → State → Prop := va_Pc av (fun U => U.heap.size = sz ∧ va_P G vwCl w U.heap ∧ va_K G vwCl tys U ∧ va_D (fun _ => True) w ∧ rn L U ∧ rt_U (va_A w sz) U U.heap)
theorem rt_blind {G : va_G} {tys : List (ClassId × FieldType)} {L : List Cond} {w : va_W} {sz : Nat} {av : List Value} : FrameBlind (rt_Pre G tys L w sz av) := by
  intro a U g mk q
  obtain ⟨q0, q1, qP, qK, qD, qN, qU⟩ := q
  exact ⟨q0, q1, qP, va_K.moved (u := U) (U := U.calling g mk a) (Vm.Alike.refl U.vm) qK, qD, rn.same (u := U) (U := U.calling g mk a) rfl qN, rt_U.moved (u := U) (U := U.calling g mk a) (Vm.Alike.refl U.vm) qU⟩
def rt_Qi (G : va_G) (tys : List (ClassId × FieldType)) (w : va_W) (sz : Nat) (k : Nat) (r : Int32) (w' : va_W) : Array Value → State → Outcome → State → Prop := va_Qi (S := Unit) (fun r1 _ => k = 0 ∧ r1 = r) (fun _ t => rh_At G tys (va_A w sz) w' t) (va_A w sz)
def rt_Qv (G : va_G) (tys : List (ClassId × FieldType)) (w : va_W) (sz : Nat) (k : Nat) (w' : va_W) : Array Value → State → Outcome → State → Prop := va_Qv (S := Unit) (fun _ => k = 0) (fun _ t => rh_At G tys (va_A w sz) w' t) (va_A w sz)
def rt_X (nm : Nat → String) (G : va_G) (tys : List (ClassId × FieldType)) (w : va_W) (sz : Nat) (k : Nat) (w' : va_W) : String → State → State → Prop := vx_X (S := Unit) (fun _ => k ≠ 0) (fun E _ t => E = nm k ∧ rh_At G tys (va_A w sz) w' t) (va_A w sz)
/-- returns r (k = 0) or throws the exception nm k; the world w becomes w' -/
def rt_Mi (nm : Nat → String) (l : Launch) (y : MethodName) (ws : List Cond) (rm : Room) (G : va_G) (tys : List (ClassId × FieldType)) (L : List Cond) (w : va_W) (av : List Value) (k : Nat) (r : Int32) (w' : va_W) : Prop := ∀ sz : Nat, vx_Met l y ws rm (rt_Pre G tys L w sz av) (rt_Qi G tys w sz k r w') (rt_X nm G tys w sz k w') 1 6 (va_A w sz)
def rt_Mv (nm : Nat → String) (l : Launch) (y : MethodName) (ws : List Cond) (rm : Room) (G : va_G) (tys : List (ClassId × FieldType)) (L : List Cond) (w : va_W) (av : List Value) (k : Nat) (w' : va_W) : Prop := ∀ sz : Nat, vx_Met l y ws rm (rt_Pre G tys L w sz av) (rt_Qv G tys w sz k w') (rt_X nm G tys w sz k w') 1 6 (va_A w sz)
/-- the words of a throw -/
def rt_w (own : String) (Ts L : List Cond) (E : String) (ik ic : Nat) : Prop := Cond.classLink own ik E ∈ Ts ∧ Cond.initialized E ∈ Ts ∧ (∀ w ∈ (vx_at0 own ic E rn_names).filter goodWord, w ∈ Ts) ∧ (∀ w ∈ (vx_at0 own ic E rn_names).filter (fun w => !goodWord w), w ∈ L) ∧ (∀ w ∈ Cond.classLink own ik E :: Cond.initialized E :: vx_at0 own ic E rn_names, vx_ot w = true) ∧ Bundle.fit E = true
theorem rn_fit : ∀ n ∈ rn_names, Bundle.fit n = true := by decide +kernel
theorem rt_throw {p : Program} {l : Launch} {e : Env} {rm : Room} {s : State} {m : MethodId} {args : Array Value} {below : List Frame} {meth : Method} {c : Code} {H : Heap} {locs : List Loc} {cc : ByteArray} {nL : Nat} {own : String} {Ts : List Cond} {G : va_G} {tys : List (ClassId × FieldType)} {L : List Cond} {w w' : va_W} {nm : Nat → String} {k : Nat} {Qc : Array Value → State → Outcome → State → Prop}
    (hlt : l.stackTraces = false) (X : rh_X p s m args c cc nL own Ts G tys L (va_A w s.heap.size)) (hU : rt_U (va_A w s.heap.size) s s.heap) (hlocks : meth.locks = false) (htab : ∀ x ∈ c.exceptionTable.toList, False) (hrc : rm.cells = 1) (hrs : rm.slots = 6) (hfr : 5 < rm.frames) (hlo : 81 ≤ rm.locals)
    (h : rh_W G (va_A w s.heap.size) s H locs w') {ls : Array Slot} {pc ik ic : Nat} {E : String} (hls : ls.size = nL) (hk : k ≠ 0) (hE : E = nm k) (ht : rt_w own Ts L E ik ic)
    (d0 : decode cc pc = .ok (.new ik, 3)) (d3 : decode cc (pc + 3) = .ok (.dup, 1)) (d4 : decode cc (pc + 4) = .ok (.invokespecial ic, 3)) (d7 : decode cc (pc + 7) = .ok (.athrow, 1)) :
    W p l e rm s m args below meth c H locs 0 0 (vx_MQ below Qc (rt_X nm G tys w s.heap.size k w') args s 1 6 (va_A w s.heap.size)) (F0 m pc ls []) := by
  obtain ⟨t1, t2, t3, t4, t5, t6⟩ := ht
  have hts := X.2.2.2.2.1
  refine vx_throw0 X.1 X.2.1 hlt X.2.2.2.1 t6 rn_fit (hts _ t1) (hts _ t2) (vx_hat (B := L) (fun w hw => hts _ (t3 w hw)) t4 (fun w hw => ?_)) t5 hU.1 hU.2 h.2.2 (hls.trans X.2.2.1.symm) d0 d3 d4 d7 (fun x hx => (htab x hx).elim) (by exact hfr) (by exact hlo) (by rw [hrc]; exact Nat.le_refl 1) (by rw [hrs]; exact Nat.le_refl 6) hlocks (fun t hvm hz hq => ?_) h.2.2.2.2 (Nat.le_refl 1) (Nat.le_refl 6)
  · have h1 := X.2.2.2.2.2.2.1.1 w hw
    have h2 := X.2.2.2.2.2.2.1.2 w hw
    unfold rn_is at h1
    split at h1
    · exact va_Nw.use rfl h2
    · exact va_Nw.use rfl h2
    · exact va_Nw.use rfl h2
    · exact va_Nw.use rfl h2
    · cases h1
  · exact ⟨(), hk, ⟨hE, h.1.kept (fun k1 q1 hk1 => hq _ (vx_lt h.1 hk1)), va_K.moved hvm X.2.2.2.2.2.1, h.2.1⟩, Nat.le_trans h.2.2.1 hz, fun q h1 h2 => by rw [hq q (Nat.lt_of_lt_of_le h1 h.2.2.1)]; exact h.2.2.2.1 q h1 h2⟩
/-- the throws of a method, as its walk wants them -/
def rt_T (p : Program) (l : Launch) (e : Env) (rm : Room) (s : State) (m : MethodId) (args : Array Value) (below : List Frame) (meth : Method) (c : Code) (cc : ByteArray) (nL : Nat) (own : String) (Ts : List Cond) (G : va_G) (L : List Cond) (A : Nat → Prop) (w' : va_W) (nm : Nat → String) (k : Nat) (Q : State → Prop) : Prop :=
  ∀ (H : Heap) (locs : List Loc) (ls : Array Slot) (pc ik ic : Nat) (E : String), ls.size = nL → k ≠ 0 → E = nm k → rt_w own Ts L E ik ic → decode cc pc = .ok (.new ik, 3) → decode cc (pc + 3) = .ok (.dup, 1) → decode cc (pc + 4) = .ok (.invokespecial ic, 3) → decode cc (pc + 7) = .ok (.athrow, 1) → rh_W G A s H locs w' → W p l e rm s m args below meth c H locs 0 0 Q (F0 m pc ls [])
theorem rt_ofi {nm : Nat → String} {l : Launch} {y : MethodName} {ws ws' : List Cond} {rm : Room} {G : va_G} {tys : List (ClassId × FieldType)} {L : List Cond} {w w' : va_W} {av : List Value} {k : Nat} {r : Int32} {cc : ByteArray} {maxL : Nat} {ty : FieldType} (hlt : l.stackTraces = false) (hy : plainName y.cls = true) (hw : ws = Cond.code y cc maxL (some ty) :: ws') (hl : (lg_sl av).length ≤ maxL) (hrc : rm.cells = 1) (hrs : rm.slots = 6) (hfr : 5 < rm.frames) (hlo : 81 ≤ rm.locals)
    (body : ∀ (p : Program) (e : Env) (s : State) (m : MethodId) (below : List Frame) (meth : Method) (c : Code) (A : Nat → Prop) (Q : State → Prop), rh_X p s m av.toArray c cc maxL y.cls ws G tys L A →
      (∀ (H : Heap) (locs : List Loc) (ls : Array Slot) (pc : Nat), k = 0 → narrow ty (.int r) = .int r → decode cc pc = .ok (.ireturn, 1) → rh_W G A s H locs w' → W p l e rm s m av.toArray below meth c H locs 0 0 Q (F0 m pc ls [.int r])) →
      rt_T p l e rm s m av.toArray below meth c cc maxL y.cls ws G L A w' nm k Q →
      ∀ (ls : Array Slot), lv_has ls maxL (lv_args 0 av) → rh_W G A s s.heap [] w → W p l e rm s m av.toArray below meth c s.heap [] 0 0 Q (F0 m 0 ls [])) : rt_Mi nm l y ws rm G tys L w av k r w' := by
  intro sz
  refine vx_ofW (cc := cc) (maxL := maxL) (ret := some ty) hy hw ?_
  intro p e s m args below meth c s₁ B hml htab hv
  obtain ⟨rfl, hsz, hP, hK, hD0, hN, hU⟩ := hv
  have hx := B.exec
  have hb := B.bytes
  have hr := B.returns
  have hts := atoms_spec (ws := ws) B.pre
  have hown : s.vm.findClass y.cls = some m.cls := findClass_of_methodNamed B.named
  have hlocks := B.notSynchronized
  subst hsz
  have hD := hD0.self (sz := s.heap.size)
  have hl9 := lv_entry av (n := maxL) hl
  rw [lg_entry_eq]
  have X : rh_X p s m av.toArray c cc maxL y.cls ws G tys L (va_A w s.heap.size) := ⟨hx, hb, hml, hown, hts, hK, hN, fun q h => Or.inr h⟩
  refine body p e s m below meth c (va_A w s.heap.size) _ X ?_ ?_ _ hl9 ⟨hP, hD, va_S.rf⟩
  · intro H locs ls pc hk0 hn hd h
    refine vx_ret (W.widen (k := 1) (n := 6) (Nat.zero_le _) (Nat.zero_le _) ?_)
    exact W.zret (v := r) hx hb hr hn (fun t ht hW => ⟨⟨r, (), rfl, ⟨hk0, rfl⟩, by rw [ht]; exact h.1, va_K.moved hW.alike hK, h.2.1⟩, h.2.2.F ht⟩) h.2.2.2.2 hd
  · intro H locs ls pc ik ic E hls hk hE ht d0 d3 d4 d7 h
    exact rt_throw hlt X hU hlocks htab hrc hrs hfr hlo h hls hk hE ht d0 d3 d4 d7
theorem rt_ofv {nm : Nat → String} {l : Launch} {y : MethodName} {ws ws' : List Cond} {rm : Room} {G : va_G} {tys : List (ClassId × FieldType)} {L : List Cond} {w w' : va_W} {av : List Value} {k : Nat} {cc : ByteArray} {maxL : Nat} (hlt : l.stackTraces = false) (hy : plainName y.cls = true) (hw : ws = Cond.code y cc maxL none :: ws') (hl : (lg_sl av).length ≤ maxL) (hrc : rm.cells = 1) (hrs : rm.slots = 6) (hfr : 5 < rm.frames) (hlo : 81 ≤ rm.locals)
    (body : ∀ (p : Program) (e : Env) (s : State) (m : MethodId) (below : List Frame) (meth : Method) (c : Code) (A : Nat → Prop) (Q : State → Prop), rh_X p s m av.toArray c cc maxL y.cls ws G tys L A →
      (∀ (H : Heap) (locs : List Loc) (ls : Array Slot) (pc : Nat), k = 0 → decode cc pc = .ok (.return_, 1) → rh_W G A s H locs w' → W p l e rm s m av.toArray below meth c H locs 0 0 Q (F0 m pc ls [])) →
      rt_T p l e rm s m av.toArray below meth c cc maxL y.cls ws G L A w' nm k Q →
      ∀ (ls : Array Slot), lv_has ls maxL (lv_args 0 av) → rh_W G A s s.heap [] w → W p l e rm s m av.toArray below meth c s.heap [] 0 0 Q (F0 m 0 ls [])) : rt_Mv nm l y ws rm G tys L w av k w' := by
  intro sz
  refine vx_ofW (cc := cc) (maxL := maxL) (ret := none) hy hw ?_
  intro p e s m args below meth c s₁ B hml htab hv
  obtain ⟨rfl, hsz, hP, hK, hD0, hN, hU⟩ := hv
  have hx := B.exec
  have hb := B.bytes
  have hr := B.returns
  have hts := atoms_spec (ws := ws) B.pre
  have hown : s.vm.findClass y.cls = some m.cls := findClass_of_methodNamed B.named
  have hlocks := B.notSynchronized
  subst hsz
  have hD := hD0.self (sz := s.heap.size)
  have hl9 := lv_entry av (n := maxL) hl
  rw [lg_entry_eq]
  have X : rh_X p s m av.toArray c cc maxL y.cls ws G tys L (va_A w s.heap.size) := ⟨hx, hb, hml, hown, hts, hK, hN, fun q h => Or.inr h⟩
  refine body p e s m below meth c (va_A w s.heap.size) _ X ?_ ?_ _ hl9 ⟨hP, hD, va_S.rf⟩
  · intro H locs ls pc hk0 hd h
    refine vx_ret (W.widen (k := 1) (n := 6) (Nat.zero_le _) (Nat.zero_le _) ?_)
    exact W.vret hx hb hr (fun t ht hW => ⟨⟨(), rfl, hk0, by rw [ht]; exact h.1, va_K.moved hW.alike hK, h.2.1⟩, h.2.2.F ht⟩) h.2.2.2.2 hd
  · intro H locs ls pc ik ic E hls hk hE ht d0 d3 d4 d7 h
    exact rt_throw hlt X hU hlocks htab hrc hrs hfr hlo h hls hk hE ht d0 d3 d4 d7
def rt_nA : Nat → String := fun k => if k = 2 then "java/lang/IllegalStateException" else "java/lang/IllegalArgumentException"
def rt_nB : Nat → String := fun _ => "java/lang/IndexOutOfBoundsException"
theorem rt_o1 {ik : Nat} : vx_ot (Cond.classLink RX2 ik "java/lang/IllegalArgumentException") = true := rfl
theorem rt_bA : ∀ w ∈ (vx_at0 RX2 49 "java/lang/IllegalArgumentException" rn_names).filter (fun w => !goodWord w), w ∈ rn_C := fun _ h => List.mem_append_right _ (List.mem_append_left _ h)
theorem rt_bS : ∀ w ∈ (vx_at0 RX2 87 "java/lang/IllegalStateException" rn_names).filter (fun w => !goodWord w), w ∈ rn_C := fun _ h => List.mem_append_right _ (List.mem_append_right _ (List.mem_append_left _ h))
theorem rt_bI : ∀ w ∈ (vx_at0 RX2 104 "java/lang/IndexOutOfBoundsException" rn_names).filter (fun w => !goodWord w), w ∈ rn_C := fun _ h => List.mem_append_right _ (List.mem_append_right _ (List.mem_append_right _ h))
theorem rt_gA : ∀ w ∈ Cond.classLink RX2 47 "java/lang/IllegalArgumentException" :: Cond.initialized "java/lang/IllegalArgumentException" :: vx_at0 RX2 49 "java/lang/IllegalArgumentException" rn_names, vx_ot w = true := by decide +kernel
theorem rt_gS : ∀ w ∈ Cond.classLink RX2 85 "java/lang/IllegalStateException" :: Cond.initialized "java/lang/IllegalStateException" :: vx_at0 RX2 87 "java/lang/IllegalStateException" rn_names, vx_ot w = true := by decide +kernel
theorem rt_gI : ∀ w ∈ Cond.classLink RX2 102 "java/lang/IndexOutOfBoundsException" :: Cond.initialized "java/lang/IndexOutOfBoundsException" :: vx_at0 RX2 104 "java/lang/IndexOutOfBoundsException" rn_names, vx_ot w = true := by decide +kernel
def rt_nC : Nat → String := fun _ => "java/lang/IllegalArgumentException"
