/-! ===== a world of three parts, of which a callee gets the middle one ===== -/
theorem rj_l {wl wx : va_W} {k : Nat} {q : Nat × va_E} (h : wl[k]? = some q) : (wl ++ wx)[k]? = some q := by
  rw [List.getElem?_append_left (List.getElem?_eq_some_iff.mp h).1]; exact h
theorem rj_r {wl wx : va_W} {k : Nat} {q : Nat × va_E} (h : wx[k]? = some q) : (wl ++ wx)[wl.length + k]? = some q := by
  rw [List.getElem?_append_right (Nat.le_add_right _ _), Nat.add_sub_cancel_left]; exact h
theorem rj_len {wl : va_W} {k : Nat} {q : Nat × va_E} (h : wl[k]? = some q) : k < wl.length := (List.getElem?_eq_some_iff.mp h).1
section RJ
variable {G : va_G} {A : Nat → Prop} {s : State} {H : Heap} {locs : List Loc} {wl wc wr wc' : va_W}
theorem rj_P (h : rh_W G A s H locs (wl ++ (wc ++ wr))) : va_P G vwCl wc H := fun k q hk => h.1 (wl.length + k) q (rj_r (rj_l hk))
theorem rj_D (h : rh_W G A s H locs (wl ++ (wc ++ wr))) : va_D A wc := ⟨fun i j p q hi hj e => by
  have := h.2.1.1 _ _ _ _ (rj_r (rj_l hi)) (rj_r (rj_l hj)) e
  omega, fun k q hk => h.2.1.2 _ _ (rj_r (rj_l hk))⟩
theorem rj_F (hA : ∀ q : Nat, s.heap.size ≤ q → A q) (h : rh_W G A s H locs (wl ++ (wc ++ wr))) : ∀ q, va_A wc H.size q → A q := by
  intro q hq
  rcases hq with ⟨k, e, hk⟩ | hq
  · exact (rj_D h).2 k _ hk
  · exact hA q (Nat.le_trans h.2.2.1 hq)
theorem rj_nl (h : rh_W G A s H locs (wl ++ (wc ++ wr))) {k : Nat} {q : Nat × va_E} (hk : wl[k]? = some q) : q.1 < H.size ∧ ¬ va_A wc H.size q.1 := by
  have hlt := (h.1 k q (rj_l hk)).lt
  refine ⟨hlt, fun hq => ?_⟩
  rcases hq with ⟨j, e, hj⟩ | hq
  · have := h.2.1.1 _ _ _ _ (rj_l hk) (rj_r (wl := wl) (rj_l (wx := wr) hj)) rfl
    have := rj_len hk
    omega
  · omega
theorem rj_nr (h : rh_W G A s H locs (wl ++ (wc ++ wr))) {k : Nat} {q : Nat × va_E} (hk : wr[k]? = some q) : q.1 < H.size ∧ ¬ va_A wc H.size q.1 := by
  have hlt := (h.1 _ q (rj_r (rj_r hk))).lt
  refine ⟨hlt, fun hq => ?_⟩
  rcases hq with ⟨j, e, hj⟩ | hq
  · have := h.2.1.1 _ _ _ _ (rj_r (wl := wl) (rj_r (wl := wc) hk)) (rj_r (wl := wl) (rj_l (wx := wr) hj)) rfl
    have := rj_len hj
    omega
  · omega
theorem rj_J (hA : ∀ q : Nat, s.heap.size ≤ q → A q) (h : rh_W G A s H locs (wl ++ (wc ++ wr))) {H1 : Heap} {locs1 : List Loc} (hk : ∀ q : Nat, q < H.size → ¬ va_A wc H.size q → H1[q]? = H[q]?) (hP1 : va_P G vwCl wc' H1) (hD1 : va_D (va_A wc H.size) wc') (hS : va_S A s.heap H1 locs1) : rh_W G A s H1 locs1 (wl ++ (wc' ++ wr)) := by
  have hF := rj_F hA h
  refine ⟨va_P.app (fun k q hq => (h.1 k q (rj_l hq)).kept (hk _ (rj_nl h hq).1 (rj_nl h hq).2)) (va_P.app hP1 (fun k q hq => (h.1 _ q (rj_r (rj_r hq))).kept (hk _ (rj_nr h hq).1 (rj_nr h hq).2))), ?_, hS⟩
  have Dl : va_D A wl := ⟨fun i j p q hi hj e => h.2.1.1 _ _ _ _ (rj_l hi) (rj_l hj) e, fun k q hq => h.2.1.2 _ _ (rj_l hq)⟩
  have Dr : va_D A wr := ⟨fun i j p q hi hj e => by
    have := h.2.1.1 _ _ _ _ (rj_r (wl := wl) (rj_r (wl := wc) hi)) (rj_r (wl := wl) (rj_r (wl := wc) hj)) e
    omega, fun k q hq => h.2.1.2 _ _ (rj_r (rj_r hq))⟩
  refine va_D.app Dl (va_D.app (hD1.weaken (fun _ q _ hq => hF q.1 hq)) Dr (fun i j x y hx hy hxy => ?_)) (fun i j x y hx hy hxy => ?_)
  · exact (rj_nr h hy).2 (by rw [← hxy]; exact hD1.2 i x hx)
  · rcases Nat.lt_or_ge j wc'.length with hj | hj
    · rw [List.getElem?_append_left hj] at hy
      exact (rj_nl h hx).2 (by rw [hxy]; exact hD1.2 j y hy)
    · rw [List.getElem?_append_right hj] at hy
      have h1 := h.2.1.1 _ _ _ _ (rj_l hx) (rj_r (wl := wl) (rj_r (wl := wc) hy)) hxy
      have := rj_len hx
      omega
end RJ
section RJC
variable {p : Program} {l : Launch} {e : Env} {R : Room} {s : State} {m : MethodId} {args : Array Value} {below : List Frame} {meth : Method} {c : Code} {H : Heap} {locs : List Loc} {cells slots : Nat} {Q : State → Prop}
variable {cc : ByteArray} {nL : Nat} {own : String} {Ts : List Cond} {G : va_G} {tys tysC : List (ClassId × FieldType)} {L Lc : List Cond} {A : Nat → Prop} {wl wc wr wc' : va_W}
variable {y : MethodName} {bytes : ByteArray} {maxL n index pc mc ms : Nat} {ret : Option FieldType} {ws : List Cond} {rm : Room} {C host : String} {b : Addr} {As rest st0 : List Value} {ls : Array Slot} {r : Int32}
theorem rj_start (h : rh_W G A s H locs (wl ++ (wc ++ wr))) (hKc : va_K G vwCl tysC s) (hN : rn Lc s) {av : List Value} : ∀ U : State, U.heap = H → s.WarmedH U.vm → rh_Pre G tysC Lc wc H.size av av.toArray U := by
  intro U hU hW
  exact ⟨rfl, by rw [hU], by rw [hU]; exact rj_P h, va_K.moved hW.alike hKc, (rj_D h).weaken (fun _ _ _ _ => trivial), rn.warm hW hN⟩
theorem rj_back_i (hA : ∀ q : Nat, s.heap.size ≤ q → A q) (h : rh_W G A s H locs (wl ++ (wc ++ wr))) {a : Array Value} (hr : va_Run p l e R s m args below meth c H locs cells slots mc ms (F0 m pc ls st0) rest (rh_Qi G tysC wc H.size r wc' a) (va_A wc H.size))
    (kk : ∀ (H1 : Heap) (locs1 : List Loc), rh_W G A s H1 locs1 (wl ++ (wc' ++ wr)) → W p l e R s m args below meth c H1 locs1 (cells + mc) (slots + ms) Q (F0 m (pc + 3) ls (.int r :: rest))) : W p l e R s m args below meth c H locs cells slots Q (F0 m pc ls st0) := by
  have hF := rj_F hA h
  refine va_calli hr h.2.2 (fun q _ hq => hF q hq) hF (fun r1 u t H1 locs1 ht hvm hw hB hz hk hS => ?_)
  subst hw
  obtain ⟨hP1, hK1, hD1⟩ := hB
  exact kk H1 locs1 (rj_J hA h hk (by rw [← ht]; exact hP1) hD1 hS)
theorem rj_back_v (hA : ∀ q : Nat, s.heap.size ≤ q → A q) (h : rh_W G A s H locs (wl ++ (wc ++ wr))) {a : Array Value} (hr : va_Run p l e R s m args below meth c H locs cells slots mc ms (F0 m pc ls st0) rest (rh_Qv G tysC wc H.size wc' a) (va_A wc H.size))
    (kk : ∀ (H1 : Heap) (locs1 : List Loc), rh_W G A s H1 locs1 (wl ++ (wc' ++ wr)) → W p l e R s m args below meth c H1 locs1 (cells + mc) (slots + ms) Q (F0 m (pc + 3) ls rest)) : W p l e R s m args below meth c H locs cells slots Q (F0 m pc ls st0) := by
  have hF := rj_F hA h
  refine va_callv hr h.2.2 (fun q _ hq => hF q hq) hF (fun u t H1 locs1 ht hvm hw hB hz hk hS => ?_)
  obtain ⟨hP1, hK1, hD1⟩ := hB
  exact kk H1 locs1 (rj_J hA h hk (by rw [← ht]; exact hP1) hD1 hS)
/-- invokevirtual of a method with a world of its own -/
theorem rj_Vi (S : CallFix p m c cc nL s args Ts own) (hA : ∀ q : Nat, s.heap.size ≤ q → A q) (hKc : va_K G vwCl tysC s) (hN : rn Lc s) (h : rh_W G A s H locs (wl ++ (wc ++ wr))) (hM : rh_Mi l y ws rm G tysC Lc wc (.ref b :: As) r wc') (cw : CallW R s args own C index y bytes maxL ret ws rm 0 0 n) (hrec : ∃ cellB : Cell, H[b]? = some cellB ∧ cellB.vm.isStatics = false ∧ s.vm.findClass C = some cellB.cls)
    (hn : As.length = n) (hl : ls.size = nL) (hst : st0 = As.reverse ++ .ref b :: rest) (hro : (rest.map fun v => v.category).sum ≤ 8) (hdg : decode cc pc = .ok (.invokevirtual index, 3)) (hf : cells + 0 ≤ R.cells ∧ slots + 0 ≤ R.slots)
    (kk : ∀ (H1 : Heap) (locs1 : List Loc), rh_W G A s H1 locs1 (wl ++ (wc' ++ wr)) → W p l e R s m args below meth c H1 locs1 cells slots Q (F0 m (pc + 3) ls (.int r :: rest))) : W p l e R s m args below meth c H locs cells slots Q (F0 m pc ls st0) := by
  subst hst
  exact rj_back_i hA h (va_runV S (hM H.size) cw ⟨rh_blind, hrec, rj_start h hKc hN⟩ rfl hn hl rfl (lv_room hro) hdg hf) kk
theorem rj_Vv (S : CallFix p m c cc nL s args Ts own) (hA : ∀ q : Nat, s.heap.size ≤ q → A q) (hKc : va_K G vwCl tysC s) (hN : rn Lc s) (h : rh_W G A s H locs (wl ++ (wc ++ wr))) (hM : rh_Mv l y ws rm G tysC Lc wc (.ref b :: As) wc') (cw : CallW R s args own C index y bytes maxL ret ws rm 0 0 n) (hrec : ∃ cellB : Cell, H[b]? = some cellB ∧ cellB.vm.isStatics = false ∧ s.vm.findClass C = some cellB.cls)
    (hn : As.length = n) (hl : ls.size = nL) (hst : st0 = As.reverse ++ .ref b :: rest) (hro : (rest.map fun v => v.category).sum ≤ 8) (hdg : decode cc pc = .ok (.invokevirtual index, 3)) (hf : cells + 0 ≤ R.cells ∧ slots + 0 ≤ R.slots)
    (kk : ∀ (H1 : Heap) (locs1 : List Loc), rh_W G A s H1 locs1 (wl ++ (wc' ++ wr)) → W p l e R s m args below meth c H1 locs1 cells slots Q (F0 m (pc + 3) ls rest)) : W p l e R s m args below meth c H locs cells slots Q (F0 m pc ls st0) := by
  subst hst
  exact rj_back_v hA h (va_runV S (hM H.size) cw ⟨rh_blind, hrec, rj_start h hKc hN⟩ rfl hn hl rfl (lv_room hro) hdg hf) kk
/-- the start of a callee that may throw -/
theorem rj_Tstart (hA : ∀ q : Nat, s.heap.size ≤ q → A q) (h : rh_W G A s H locs (wl ++ (wc ++ wr))) (hKc : va_K G vwCl tysC s) (hN : rn Lc s) (hU0 : rt_U A s s.heap) {av : List Value} : ∀ U : State, U.heap = H → s.WarmedH U.vm → rt_Pre G tysC Lc wc H.size av av.toArray U := by
  intro U hU hW
  refine ⟨rfl, by rw [hU], by rw [hU]; exact rj_P h, va_K.moved hW.alike hKc, (rj_D h).weaken (fun _ _ _ _ => trivial), rn.warm hW hN, ?_⟩
  rw [hU]
  exact rt_U.moved hW.alike ((hU0.kept h.2.2.2.1).narrow (rj_F hA h))
/-- invokevirtual of a method that may throw: it returns, or its exception is on the way -/
theorem rj_TVi {nm : Nat → String} {k : Nat} (S : CallFix p m c cc nL s args Ts own) (hA : ∀ q : Nat, s.heap.size ≤ q → A q) (hKc : va_K G vwCl tysC s) (hN : rn Lc s) (hU0 : rt_U A s s.heap) (h : rh_W G A s H locs (wl ++ (wc ++ wr))) (hM : rt_Mi nm l y ws rm G tysC Lc wc (.ref b :: As) k r wc') (cw : CallW R s args own C index y bytes maxL ret ws rm 1 6 n) (hrec : ∃ cellB : Cell, H[b]? = some cellB ∧ cellB.vm.isStatics = false ∧ s.vm.findClass C = some cellB.cls)
    (hn : As.length = n) (hl : ls.size = nL) (hst : st0 = As.reverse ++ .ref b :: rest) (hro : (rest.map fun v => v.category).sum ≤ 8) (hdg : decode cc pc = .ok (.invokevirtual index, 3)) (hf : cells + 1 ≤ R.cells ∧ slots + 6 ≤ R.slots)
    (kx : k ≠ 0 → ∀ (H1 : Heap) (locs1 : List Loc) (ce : Cell) (q9 : Addr), rh_W G A s H1 locs1 (wl ++ (wc' ++ wr)) → H1[q9]? = some ce → ce.vm = .none → s.vm.findClass (nm k) = some ce.cls → vx_W p l e R s m args below meth c H1 locs1 (cells + 1) (slots + 6) Q (F0 m pc ls rest) q9)
    (kk : k = 0 → ∀ (H1 : Heap) (locs1 : List Loc), rh_W G A s H1 locs1 (wl ++ (wc' ++ wr)) → W p l e R s m args below meth c H1 locs1 (cells + 1) (slots + 6) Q (F0 m (pc + 3) ls (.int r :: rest))) : W p l e R s m args below meth c H locs cells slots Q (F0 m pc ls st0) := by
  subst hst
  have hF := rj_F hA h
  refine vx_calli (vx_runV S (hM H.size) cw ⟨rt_blind, hrec, rj_Tstart hA h hKc hN hU0⟩ rfl hn hl rfl (lv_room hro) hdg hf) h.2.2 (fun q _ hq => hF q hq) hF (fun q _ hq => hF q hq) (fun E ce q9 u t H1 locs1 ht hvm hp hB hz hk hS hc1 hc2 hc3 => ?_) (fun r1 u t H1 locs1 ht hvm hw hB hz hk hS => ?_)
  · obtain ⟨rfl, hP1, hK1, hD1⟩ := hB
    exact kx hp H1 locs1 ce q9 (rj_J hA h hk (by rw [← ht]; exact hP1) hD1 hS) hc1 hc2 hc3
  · obtain ⟨hk0, rfl⟩ := hw
    obtain ⟨hP1, hK1, hD1⟩ := hB
    exact kk hk0 H1 locs1 (rj_J hA h hk (by rw [← ht]; exact hP1) hD1 hS)
theorem rj_TVv {nm : Nat → String} {k : Nat} (S : CallFix p m c cc nL s args Ts own) (hA : ∀ q : Nat, s.heap.size ≤ q → A q) (hKc : va_K G vwCl tysC s) (hN : rn Lc s) (hU0 : rt_U A s s.heap) (h : rh_W G A s H locs (wl ++ (wc ++ wr))) (hM : rt_Mv nm l y ws rm G tysC Lc wc (.ref b :: As) k wc') (cw : CallW R s args own C index y bytes maxL ret ws rm 1 6 n) (hrec : ∃ cellB : Cell, H[b]? = some cellB ∧ cellB.vm.isStatics = false ∧ s.vm.findClass C = some cellB.cls)
    (hn : As.length = n) (hl : ls.size = nL) (hst : st0 = As.reverse ++ .ref b :: rest) (hro : (rest.map fun v => v.category).sum ≤ 8) (hdg : decode cc pc = .ok (.invokevirtual index, 3)) (hf : cells + 1 ≤ R.cells ∧ slots + 6 ≤ R.slots)
    (kx : k ≠ 0 → ∀ (H1 : Heap) (locs1 : List Loc) (ce : Cell) (q9 : Addr), rh_W G A s H1 locs1 (wl ++ (wc' ++ wr)) → H1[q9]? = some ce → ce.vm = .none → s.vm.findClass (nm k) = some ce.cls → vx_W p l e R s m args below meth c H1 locs1 (cells + 1) (slots + 6) Q (F0 m pc ls rest) q9)
    (kk : k = 0 → ∀ (H1 : Heap) (locs1 : List Loc), rh_W G A s H1 locs1 (wl ++ (wc' ++ wr)) → W p l e R s m args below meth c H1 locs1 (cells + 1) (slots + 6) Q (F0 m (pc + 3) ls rest)) : W p l e R s m args below meth c H locs cells slots Q (F0 m pc ls st0) := by
  subst hst
  have hF := rj_F hA h
  refine vx_callv (vx_runV S (hM H.size) cw ⟨rt_blind, hrec, rj_Tstart hA h hKc hN hU0⟩ rfl hn hl rfl (lv_room hro) hdg hf) h.2.2 (fun q _ hq => hF q hq) hF (fun q _ hq => hF q hq) (fun E ce q9 u t H1 locs1 ht hvm hp hB hz hk hS hc1 hc2 hc3 => ?_) (fun u t H1 locs1 ht hvm hw hB hz hk hS => ?_)
  · obtain ⟨rfl, hP1, hK1, hD1⟩ := hB
    exact kx hp H1 locs1 ce q9 (rj_J hA h hk (by rw [← ht]; exact hP1) hD1 hS) hc1 hc2 hc3
  · obtain ⟨hP1, hK1, hD1⟩ := hB
    exact kk hw H1 locs1 (rj_J hA h hk (by rw [← ht]; exact hP1) hD1 hS)
end RJC
/-! the law's helpers: methods with a table of their own -/
def rq_Pre (G : va_G) (tys : List (ClassId × FieldType)) (L : List Cond) (w : va_W) (sz : Nat) (av : List Value) : Array Value → State → Prop := va_Pc av (fun U => U.heap.size = sz ∧ va_P G vwCl w U.heap ∧ va_K G vwCl tys U ∧ va_D (fun _ => True) w ∧ rn L U ∧ rt_U (va_A w sz) U U.heap ∧ va_Nc "java/lang/IllegalStateException" "java/lang/IllegalArgumentException" U)
theorem rq_blind {G : va_G} {tys : List (ClassId × FieldType)} {L : List Cond} {w : va_W} {sz : Nat} {av : List Value} : FrameBlind (rq_Pre G tys L w sz av) := by
  intro a U g mk q
  obtain ⟨q0, q1, qP, qK, qD, qN, qU, qC⟩ := q
  exact ⟨q0, q1, qP, va_K.moved (u := U) (U := U.calling g mk a) (Vm.Alike.refl U.vm) qK, qD, rn.same (u := U) (U := U.calling g mk a) rfl qN, rt_U.moved (u := U) (U := U.calling g mk a) (Vm.Alike.refl U.vm) qU, va_Nc.moved (u := U) (U := U.calling g mk a) (Vm.Alike.refl U.vm) qC⟩
def rq_M (l : Launch) (y : MethodName) (ws : List Cond) (rm : Room) (G : va_G) (tys : List (ClassId × FieldType)) (L : List Cond) (w : va_W) (av : List Value) (r : Int32) (w' : va_W) : Prop := ∀ sz : Nat, Met l y ws rm (rq_Pre G tys L w sz av) (rh_Qi G tys w sz r w') 1 6 (va_A w sz)
theorem rq_of {l : Launch} {y : MethodName} {ws ws' : List Cond} {rm : Room} {G : va_G} {tys : List (ClassId × FieldType)} {L : List Cond} {w w' : va_W} {av : List Value} {r : Int32} {cc : ByteArray} {maxL : Nat} {hh : List (Nat × Nat × Nat × Nat)} (hy : plainName y.cls = true) (hw : ws = Cond.codeWith y cc maxL (some .int) hh :: ws') (hl : (lg_sl av).length ≤ maxL)
    (body : ∀ (p : Program) (e : Env) (s : State) (m : MethodId) (below : List Frame) (meth : Method) (c : Code) (A : Nat → Prop) (Q : State → Prop), rh_X p s m av.toArray c cc maxL y.cls ws G tys L A → rt_U A s s.heap → va_Nc "java/lang/IllegalStateException" "java/lang/IllegalArgumentException" s → c.exceptionTable.toList = tableOf hh →
      (∀ (H : Heap) (locs : List Loc) (ls : Array Slot) (pc : Nat), decode cc pc = .ok (.ireturn, 1) → rh_W G A s H locs w' → W p l e rm s m av.toArray below meth c H locs 1 6 Q (F0 m pc ls [.int r])) →
      ∀ (ls : Array Slot), lv_has ls maxL (lv_args 0 av) → rh_W G A s s.heap [] w → W p l e rm s m av.toArray below meth c s.heap [] 0 0 Q (F0 m 0 ls [])) : rq_M l y ws rm G tys L w av r w' := by
  intro sz
  refine va_MetW (cc := cc) (maxL := maxL) (ret := some .int) (hh := hh) hy hw ?_
  intro p e s m args below meth c s₁ B hml hv
  obtain ⟨rfl, hsz, hP, hK, hD0, hN, hU, hC⟩ := hv
  have hx := B.exec
  have hb := B.bytes
  have hr := B.returns
  have hts := atoms_spec (ws := ws) B.pre
  have hown : s.vm.findClass y.cls = some m.cls := findClass_of_methodNamed B.named
  have hlocks := B.notSynchronized
  have htab : c.exceptionTable.toList = tableOf hh := vx_table (x := y) B (hts _ (by rw [hw]; exact List.mem_cons_self))
  subst hsz
  have hD := hD0.self (sz := s.heap.size)
  have hl9 := lv_entry av (n := maxL) hl
  rw [lg_entry_eq]
  refine body p e s m below meth c (va_A w s.heap.size) _ ⟨hx, hb, hml, hown, hts, hK, hN, fun q h => Or.inr h⟩ hU hC htab ?_ _ hl9 ⟨hP, hD, va_S.rf⟩
  intro H locs ls pc hd h
  exact W.iret (v := r) hx hb hr (fun t ht hW => ⟨⟨r, (), rfl, rfl, by rw [ht]; exact h.1, va_K.moved hW.alike hK, h.2.1⟩, h.2.2.F ht⟩) h.2.2.2.2 hd
/-- what the helpers leave in out[0] -/
def rq_o (k : Nat) (fo : Nat → Int64) (v : Int64) : Nat → Int64 := if k = 0 then vp_updL fo 0 v else fo
def rq_k1 (k : Nat) : Int32 := if k = 0 then 0 else 1
def rq_k2 (k : Nat) : Int32 := if k = 0 then 0 else if k = 2 then 2 else 1
abbrev rq_out (cyJ : ClassId) (o : Nat) (fo : Nat → Int64) : va_W := [(o, .inl (cyJ, 1, .inr (.inl fo)))]
