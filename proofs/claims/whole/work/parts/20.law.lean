/-! THE CLAIM OUT OF ONE WALK OF THE LAW'S BODY. Your part is whole_start (and what it stands on); all else here is the same for every law, but numbers. -/
def R_law : String := "ReplicaHeapLaw"
def lw_P (b : Addr) (xs : List Int32) (args : Array Value) (s : State) : Prop := args = #[.ref b] ∧ s.IntsAt b xs ∧ xs.length ≤ 2050 ∧ (Jvm.Cond.and given_1 narrow_1).before args s = true
def lw_Q (_ : Array Value) (s : State) (o : Outcome) (t : State) : Prop := o = .returned (some (.int 1)) ∧ Framed s o t [] 601024 7293000
def lw_Z (below : List Frame) (a : Array Value) (s : State) : State → Prop := fun t => ∃ o, t.status = .running ∧ Ended t below o ∧ lw_Q a s o t
/-- the law's own end, with 1 on the stack, nothing written that was there before, its room as the claim has it -/
theorem lw_ret {p : Program} {l : Launch} {e : Env} {s : State} {m : MethodId} {below : List Frame} {meth : Method} {c : Code} {b : Nat} (hx : p.tables.exec = Jvm.exec) (hb : c.code = code) (hr : meth.sig.returnType = ret) (hlocks : meth.locks = false) {pc : Nat} {H : Heap} {ls : Array Slot} (hdg : decode code pc = .ok (.ireturn, 1)) : W p l e room_1 s m #[Value.ref b] below meth c H [] 601024 7293000 (lw_Z below #[Value.ref b] s) (F0 m pc ls [.int 1]) := by
  intro T hT X
  obtain ⟨fs, hret, hrun, hended, hW, hframe⟩ := X.leave (v := some (.int 1)) (hlocks := hlocks) (fun h => by rw [hr] at h; cases h)
  have hmeth' : T.vm.method? m = some meth := X.method'
  refine ⟨T.setFrames fs, ?_, .returned (some (.int 1)), hrun, hended, rfl, ⟨_, rfl⟩, hW, hframe⟩
  jvm_step X.here [X.here.top, hx, hb, hdg, hmeth', hr, ret, narrow_b1]
  (try refine ⟨rfl, ?_⟩); (try refine ⟨rfl, ?_⟩)
  first | (intro acts; rw [hret _ acts rfl rfl rfl]) | rw [hret _ _ rfl rfl rfl]
  exact Steps.refl _
/-- what holds at the law's entry: the machine, the code, the tables' words (any of lw_tbl by 'hts w (by decide +kernel)'), the script of L ints xs at the cell b, what the Statement gives of the start (any of its parts by flat_of_before) -/
def lw_At (p : Program) (s : State) (m : MethodId) (meth : Method) (c : Code) (b L : Nat) (xs : Nat → Int32) : Prop :=
  p.tables.exec = Jvm.exec ∧ c.code = code ∧ meth.sig.returnType = ret ∧ c.maxLocals = 7 ∧ s.vm.findClass R_law = some m.cls ∧ (∀ w ∈ lw_tbl, w.before #[Value.ref b] s = true) ∧ va_X b L xs s s.heap ∧ b < s.heap.size ∧ meth.locks = false ∧ (Jvm.Cond.and given_1 narrow_1).before #[Value.ref b] s = true

/-- all that the law asks of the class and of the reference -/
def PU (REL : rl_T) : Prop := (pu_alloc REL ∧ pu_put REL ∧ pu_putNumber REL ∧ pu_get REL ∧ pu_move REL ∧ pu_number REL) ∧ (pu_collect REL ∧ pu_look REL ∧ pu_field REL ∧ pu_cell REL ∧ pu_entry REL ∧ pu_count REL) ∧ pu_skip REL ∧ pu_start REL
theorem rl_go {L k : Nat} {x4 : Int32} (hL : L ≤ 2050) (hk : k ≤ 600) (e4 : x4 = nI (2 + 4 * k)) (c1 : ¬ Int32.ofNat L - 4 < x4) : 2 + 4 * k + 4 ≤ L := by
  refine Nat.not_lt.mp fun q => c1 ?_
  rw [Int32.lt_iff_toInt_lt]
  have a1 : (Int32.ofNat L - 4).toInt = (L : Int) - 4 := pk_sub_toInt (a := L) (b := 4) (by omega) (by decide)
  have a2 : x4.toInt = ((2 + 4 * k : Nat) : Int) := by rw [e4]; exact nI_toInt (by omega)
  rw [a1, a2]
  omega
theorem rl_in {L i j : Nat} {x4 : Int32} (hL : L ≤ 2050) (e4 : x4 = nI i) (hj : i + j < L) : vp_in (x4 + nI j) L := by
  rw [e4, nI_add]
  exact vp_in_nI hj (by omega)
set_option maxHeartbeats 4000000 in
set_option maxRecDepth 100000 in
theorem law_loop {p : Program} {l : Launch} {e : Env} {s : State} {m : MethodId} {below : List Frame} {meth : Method} {c : Code} {b L : Nat} {xs : Nat → Int32} {G : va_G} {cyI cyZ cyJ : ClassId} {n x xm o : Nat} {adm : Nat → Nat} {REL : rl_T} (hL : L ≤ 2050) (hlt : l.stackTraces = false) (X : rh_X p s m #[Value.ref b] c cL_law 7 RL wsL_law G [(cyI, .int), (cyZ, .boolean), (cyJ, .long)] rn_C (fun q : Nat => s.heap.size ≤ q)) (hX : va_X b L xs s s.heap) (hbl : b < s.heap.size) (hU : rt_U (fun q : Nat => s.heap.size ≤ q) s s.heap) (hC : va_Nc "java/lang/IllegalStateException" "java/lang/IllegalArgumentException" s) (hr : meth.sig.returnType = ret) (hlocks : meth.locks = false) (hPU : PU REL) : ∀ (t k : Nat) (x4 : Int32) (H : Heap) (locs : List Loc) (ls : Array Slot) (ad : Nat → Nat) (f : Nat → Int32) (g : Nat → Nat → Int32) (fm : Nat → Int32) (gm : Nat → Nat → Int32) (fo : Nat → Int64), 600 ≤ k + t → (k = 0 ∨ 2 + 4 * k ≤ L) → x4 = nI (2 + 4 * k) → REL n k f g fm gm → rh_W G (fun q : Nat => s.heap.size ≤ q) s H locs (mw cyI cyZ xm adm fm gm ++ (cw cyI cyZ n x ad f g ++ rq_out cyJ o fo)) → lv_has ls 7 [(4, .int x4), (0, .ref b), (1, .ref x), (2, .ref xm), (3, .ref o)] → W p l e room_1 s m #[Value.ref b] below meth c H locs (24 + k) (14134 + 6 * k) (lw_Z below #[Value.ref b] s) (F0 m 43 ls []) := by
  have hx := X.1
  have hb := X.2.1
  have hown := X.2.2.2.1
  have hts := X.2.2.2.2.1
  have hK := X.2.2.2.2.2.1
  have hA := X.2.2.2.2.2.2.2
  have hbA : ¬ (fun q : Nat => s.heap.size ≤ q) b := Nat.not_le.mpr hbl
  obtain ⟨⟨u1, u2, u3, u4, u5, u6⟩, ⟨u7, u8, u9, u10, u11, u12⟩, uS, u0⟩ := hPU
  intro t
  induction t with
  | zero => intro k x4 H locs ls ad f g fm gm fo hkt hk0 e4 hR h hl; exact absurd hkt (by omega)
  | succ t ih =>
    intro k x4 H locs ls ad f g fm gm fo hkt hk0 e4 hR h hl
    refine lv_iload hx hb dL_law_43 (lv_at hl 0 rfl) ?_
    refine lv_aload_n hx hb dL_law_45 rfl (lv_at hl 1 rfl) ?_
    refine va_slen hx hb hX hbl hbA h.2.2 dL_law_46 ?_
    refine lv_iconst (v := 4) hx hb dL_law_47 (by decide) ?_
    refine lv_isub hx hb dL_law_48 ?_
    refine lv_icmp_gt (tgt := 832) hx hb dL_law_49 (by decide) (fun c1 => ?_) (fun c1 => ?_)
    · refine lv_iconst (v := 1) hx hb dL_law_832 (by decide) ?_
      refine va_forget (fun q hq => h.2.2.2.2 q hq) ?_
      refine W.widen (k := 601024) (n := 7293000) (by omega) (by omega) ?_
      exact lw_ret hx hb hr hlocks dL_law_833
    · have hgo := rl_go hL (by omega) e4 c1
      have hk : k < 512 := by omega
      have hi0 : vp_in x4 L := by rw [e4]; exact vp_in_nI (by omega) (by omega)
      have hi1 : vp_in (x4 + 1) L := rl_in (j := 1) hL e4 (by omega)
      have hi2 : vp_in (x4 + 2) L := rl_in (j := 2) hL e4 (by omega)
      have hi3 : vp_in (x4 + 3) L := rl_in (j := 3) hL e4 (by omega)
      have hf : (24 + k) + 1 ≤ room_1.cells ∧ (14134 + 6 * k) + 6 ≤ room_1.slots := ⟨by show _ ≤ 601024; omega, by show _ ≤ 7293000; omega⟩
      have nx : rl_next p l e s m below meth c (lw_Z below #[Value.ref b] s) b G cyI cyZ cyJ n x xm o adm REL (k + 1) x4 ((24 + k) + 1) ((14134 + 6 * k) + 6) := by
        intro H locs ls ad f g fm gm fo hR h hl
        refine lv_iinc (v := nI (2 + 4 * (k + 1))) (lv' := [(4, .int (nI (2 + 4 * (k + 1)))), (0, .ref b), (1, .ref x), (2, .ref xm), (3, .ref o)]) hx hb dL_law_826 hl (k := 0) rfl (by rw [e4, show (2 + 4 * (k + 1)) = (2 + 4 * k) + 4 by omega]; exact nI_add (2 + 4 * k) 4) (by decide) rfl (fun ls hl => ?_)
        refine lv_goto (tgt := 43) hx hb dL_law_829 (by decide) ?_
        rw [show (24 + k) + 1 = 24 + (k + 1) by omega, show (14134 + 6 * k) + 6 = 14134 + 6 * (k + 1) by omega]
        exact ih (k + 1) _ H locs ls ad f g fm gm fo (by omega) (by omega) rfl hR h hl
      refine lv_aload_n hx hb dL_law_52 rfl (lv_at hl 1 rfl) ?_
      refine lv_iload hx hb dL_law_53 (lv_at hl 0 rfl) ?_
      refine va_sld hx hb hX hbl hbA h.2.2 hi0 dL_law_55 ?_
      refine lv_bipush (v := 15) hx hb dL_law_56 (by decide) ?_
      refine lv_iand hx hb dL_law_58 ?_
      refine lv_topi (fun v ev => ?_)
      by_cases c10 : v = 0
      · refine lv_tableIn (tgt := 120) hx hb dL_law_59 (by rw [c10]; decide) (by rw [c10]; decide) (by rw [c10]; rfl) (by decide) ?_
        exact w_alloc hlt X hX hbl hU hC u1 hk hi1 hi2 hf nx hR h hl
      by_cases c11 : v = 1
      · refine lv_tableIn (tgt := 195) hx hb dL_law_59 (by rw [c11]; decide) (by rw [c11]; decide) (by rw [c11]; rfl) (by decide) ?_
        exact w_put hlt X hX hbl hU hC u2 hk hi1 hi2 hi3 hf nx hR h hl
      by_cases c12 : v = 2
      · refine lv_tableIn (tgt := 255) hx hb dL_law_59 (by rw [c12]; decide) (by rw [c12]; decide) (by rw [c12]; rfl) (by decide) ?_
        exact w_putNumber hlt X hX hbl hU hC u3 hk hi1 hi2 hi3 hf nx hR h hl
      by_cases c13 : v = 3
      · refine lv_tableIn (tgt := 315) hx hb dL_law_59 (by rw [c13]; decide) (by rw [c13]; decide) (by rw [c13]; rfl) (by decide) ?_
        exact w_get hlt X hX hbl hU hC u4 hk hi1 hi2 hi3 hf nx hR h hl
      by_cases c14 : v = 4
      · refine lv_tableIn (tgt := 375) hx hb dL_law_59 (by rw [c14]; decide) (by rw [c14]; decide) (by rw [c14]; rfl) (by decide) ?_
        exact w_move hlt X hX hbl hU hC u5 hk hi1 hi2 hf nx hR h hl
      by_cases c15 : v = 5
      · refine lv_tableIn (tgt := 412) hx hb dL_law_59 (by rw [c15]; decide) (by rw [c15]; decide) (by rw [c15]; rfl) (by decide) ?_
        exact w_number hlt X hX hbl hU hC u6 hk hi1 hi2 hf nx hR h hl
      by_cases c16 : v = 6
      · refine lv_tableIn (tgt := 449) hx hb dL_law_59 (by rw [c16]; decide) (by rw [c16]; decide) (by rw [c16]; rfl) (by decide) ?_
        exact w_collect hlt X hX hbl hU hC u7 hk hi1 hf nx hR h hl
      by_cases c17 : v = 7
      · refine lv_tableIn (tgt := 505) hx hb dL_law_59 (by rw [c17]; decide) (by rw [c17]; decide) (by rw [c17]; rfl) (by decide) ?_
        exact w_look hlt X hX hbl hU hC u8 hk hi1 hi2 hf nx hR h hl
      by_cases c18 : v = 8
      · refine lv_tableIn (tgt := 573) hx hb dL_law_59 (by rw [c18]; decide) (by rw [c18]; decide) (by rw [c18]; rfl) (by decide) ?_
        exact w_field hlt X hX hbl hU hC u9 hk hi1 hi2 hi3 hf nx hR h hl
      by_cases c19 : v = 9
      · refine lv_tableIn (tgt := 653) hx hb dL_law_59 (by rw [c19]; decide) (by rw [c19]; decide) (by rw [c19]; rfl) (by decide) ?_
        exact w_cell hlt X hX hbl hU hC u10 hk hi1 hi2 hi3 hf nx hR h hl
      by_cases c20 : v = 10
      · refine lv_tableIn (tgt := 733) hx hb dL_law_59 (by rw [c20]; decide) (by rw [c20]; decide) (by rw [c20]; rfl) (by decide) ?_
        exact w_entry hlt X hX hbl hU hC u11 hk hi1 hi2 hf nx hR h hl
      by_cases c21 : v = 11
      · refine lv_tableIn (tgt := 801) hx hb dL_law_59 (by rw [c21]; decide) (by rw [c21]; decide) (by rw [c21]; rfl) (by decide) ?_
        exact w_count hlt X hX hbl hU hC u12 hk hi1 hf nx hR h hl
      have e10 : v.toInt ≠ 0 := fun e9 => c10 (Int32.toInt_inj.mp (e9.trans (by decide)))
      have e11 : v.toInt ≠ 1 := fun e9 => c11 (Int32.toInt_inj.mp (e9.trans (by decide)))
      have e12 : v.toInt ≠ 2 := fun e9 => c12 (Int32.toInt_inj.mp (e9.trans (by decide)))
      have e13 : v.toInt ≠ 3 := fun e9 => c13 (Int32.toInt_inj.mp (e9.trans (by decide)))
      have e14 : v.toInt ≠ 4 := fun e9 => c14 (Int32.toInt_inj.mp (e9.trans (by decide)))
      have e15 : v.toInt ≠ 5 := fun e9 => c15 (Int32.toInt_inj.mp (e9.trans (by decide)))
      have e16 : v.toInt ≠ 6 := fun e9 => c16 (Int32.toInt_inj.mp (e9.trans (by decide)))
      have e17 : v.toInt ≠ 7 := fun e9 => c17 (Int32.toInt_inj.mp (e9.trans (by decide)))
      have e18 : v.toInt ≠ 8 := fun e9 => c18 (Int32.toInt_inj.mp (e9.trans (by decide)))
      have e19 : v.toInt ≠ 9 := fun e9 => c19 (Int32.toInt_inj.mp (e9.trans (by decide)))
      have e20 : v.toInt ≠ 10 := fun e9 => c20 (Int32.toInt_inj.mp (e9.trans (by decide)))
      have e21 : v.toInt ≠ 11 := fun e9 => c21 (Int32.toInt_inj.mp (e9.trans (by decide)))
      refine lv_tableOut (tgt := 826) hx hb dL_law_59 (by omega) (by decide) ?_
      refine W.widen (k := (24 + k) + 1) (n := (14134 + 6 * k) + 6) (Nat.le_add_right _ _) (Nat.le_add_right _ _) ?_
      exact nx H locs ls ad f g fm gm fo (uS n k f g fm gm hk hR) h hl
/-- a constructor called by the law -/
theorem rj_I {S : Type} {w' : S → va_W} {p : Program} {l : Launch} {e : Env} {R : Room} {s : State} {m : MethodId} {args : Array Value} {below : List Frame} {meth : Method} {c : Code} {H : Heap} {locs : List Loc} {cells slots : Nat} {Q : State → Prop} {cc : ByteArray} {nL : Nat} {own : String} {Ts : List Cond} {G : va_G} {tysC : List (ClassId × FieldType)} {Lc : List Cond} {A : Nat → Prop} {wl wc wr : va_W} {y : MethodName} {bytes : ByteArray} {maxL n index pc mc ms : Nat} {ws : List Cond} {rm : Room} {b : Addr} {As rest st0 : List Value} {ls : Array Slot}
    (S0 : CallFix p m c cc nL s args Ts own) (hA : ∀ q : Nat, s.heap.size ≤ q → A q) (hKc : va_K G vwCl tysC s) (hN : rn Lc s) (h : rh_W G A s H locs (wl ++ (wc ++ wr))) (hM : ∀ sz : Nat, Met l y ws rm (rh_Pre G tysC Lc wc sz (.ref b :: As)) (va_Qv (S := S) (fun _ => True) (fun u t => rh_At G tysC (va_A wc sz) (w' u) t) (va_A wc sz)) mc ms (va_A wc sz))
    (cw : CallB R s args own index y bytes maxL none ws rm mc ms n ∧ y.name = "<init>" ∧ (Cond.instanceMethod y).before args s = true) (hn : As.length = n) (hl : ls.size = nL) (hst : st0 = As.reverse ++ .ref b :: rest) (hro : (rest.map fun v => v.category).sum ≤ 8) (hdg : decode cc pc = .ok (.invokespecial index, 3)) (hf : cells + mc ≤ R.cells ∧ slots + ms ≤ R.slots)
    (kk : ∀ (u : S) (H1 : Heap) (locs1 : List Loc), rh_W G A s H1 locs1 (wl ++ (w' u ++ wr)) → W p l e R s m args below meth c H1 locs1 (cells + mc) (slots + ms) Q (F0 m (pc + 3) ls rest)) : W p l e R s m args below meth c H locs cells slots Q (F0 m pc ls st0) := by
  subst hst
  have hF := rj_F hA h
  refine va_callv (va_runI S0 (hM H.size) cw ⟨rh_blind, rj_start h hKc hN⟩ rfl hn hl rfl (lv_room hro) hdg hf) h.2.2 (fun q _ hq => hF q hq) hF (fun u t H1 locs1 ht hvm hw hB hz hk hS => ?_)
  obtain ⟨hP1, hK1, hD1⟩ := hB
  exact kk u H1 locs1 (rj_J hA h hk (by rw [← ht]; exact hP1) hD1 hS)
theorem rl_arr {args : Array Value} {s : State} {ty : FieldType} (h : (Cond.arrayClass ty).before args s = true) (hn : ∀ C : String, ty ≠ .object C) : ∃ cA : ClassId, ArrOfT s cA ty ∧ va_RA s cA ty := by
  obtain ⟨cA, kA, comp, h1, h2, h3⟩ := Cond.arrayClass_spec h
  refine ⟨cA, fun n z => ⟨fun k h => (by cases h), kA, h2, comp, h3⟩, ?_⟩
  cases ty with
  | object C => exact absurd rfl (hn C)
  | _ => exact h1
set_option maxRecDepth 100000 in
theorem rn_C_in : ∀ w ∈ rn_C, w ∈ lw_tbl := by decide +kernel
theorem rn_C_at {args : Array Value} {s : State} (hts : ∀ w ∈ lw_tbl, w.before args s = true) : rn rn_C s := by
  refine ⟨rn_C_is, fun w hw => ?_⟩
  have h1 := rn_C_is w hw
  have h2 := hts w (rn_C_in w hw)
  unfold rn_is at h1
  split at h1
  · exact va_Nw.of rfl h2
  · exact va_Nw.of rfl h2
  · exact va_Nw.of rfl h2
  · exact va_Nw.of rfl h2
  · cases h1
set_option maxHeartbeats 4000000 in
set_option maxRecDepth 100000 in
/-- THE LAW, from its entry, over what the two owe each other -/
theorem whole_open {p : Program} {e : Env} {s : State} {m : MethodId} {below : List Frame} {meth : Method} {c : Code} {REL : rl_T} (hPU : PU REL) (l : Launch) (hlt : l.stackTraces = false) {b L : Nat} {xs : Nat → Int32} (hL : L ≤ 2050) (C0 : lw_At p s m meth c b L xs) : W p l e room_1 s m #[Value.ref b] below meth c s.heap [] 0 0 (lw_Z below #[Value.ref b] s) (entryFrame m ([Value.ref b] : List Value).toArray 7) := by
  obtain ⟨hx, hb, hr, hml, hown, hts, hX, hbl, hlocks, hgv⟩ := id C0
  obtain ⟨c0, iS0, hKn0⟩ := u_known (C := RX0) (T := TX0) (N := 4) (n := 4) hts inX0 (hts (.instantiable RX0 4) (by decide +kernel))
  obtain ⟨c1, iS1, hKn1⟩ := u_known (C := RX1) (T := TX1) (N := 5) (n := 5) hts inX1 (hts (.instantiable RX1 5) (by decide +kernel))
  obtain ⟨c2, iS2, hKn2⟩ := u_known (C := RX2) (T := TX2) (N := 15) (n := 15) hts inX2 (hts (.instantiable RX2 15) (by decide +kernel))
  obtain ⟨c3, iS3, hKn3⟩ := u_known (C := RX3) (T := TX3) (N := 22) (n := 22) hts inX3 (hts (.instantiable RX3 22) (by decide +kernel))
  obtain ⟨G, hKc⟩ : ∃ G : va_G, ∀ (k : Nat) (q : vw_C), vwCl[k]? = some q → u_Kn s q.1 q.2.1 q.2.2 (G.1 k) (G.2 k) := by
    refine ⟨(fun k => if k = 0 then c0 else if k = 1 then c1 else if k = 2 then c2 else c3, fun k => if k = 0 then iS0 else if k = 1 then iS1 else if k = 2 then iS2 else iS3), ?_⟩
    intro k q hq
    match k, hq with
    | 0, hq => cases hq; exact hKn0
    | 1, hq => cases hq; exact hKn1
    | 2, hq => cases hq; exact hKn2
    | 3, hq => cases hq; exact hKn3
    | k + 4, hq => simp [vwCl] at hq
  obtain ⟨cyI, haI, hbI⟩ := rl_arr (hts (.arrayClass .int) (by decide +kernel)) (fun C h => by cases h)
  obtain ⟨cyZ, haZ, hbZ⟩ := rl_arr (hts (.arrayClass .boolean) (by decide +kernel)) (fun C h => by cases h)
  obtain ⟨cyJ, haJ, hbJ⟩ := rl_arr (hts (.arrayClass .long) (by decide +kernel)) (fun C h => by cases h)
  have hK : va_K G vwCl [(cyI, .int), (cyZ, .boolean), (cyJ, .long)] s := by
    refine ⟨hKc, fun k q hq => ?_⟩
    match k, hq with
    | 0, hq => cases hq; exact ⟨haI, hbI⟩
    | 1, hq => cases hq; exact ⟨haZ, hbZ⟩
    | 2, hq => cases hq; exact ⟨haJ, hbJ⟩
    | k + 3, hq => simp at hq
  have hN := rn_C_at hts
  have hA : ∀ q : Nat, s.heap.size ≤ q → (fun q : Nat => s.heap.size ≤ q) q := fun _ h => h
  have hbA : ¬ (fun q : Nat => s.heap.size ≤ q) b := Nat.not_le.mpr hbl
  have hgs := flat_of_before _ hgv
  have hU : rt_U (fun q : Nat => s.heap.size ≤ q) s s.heap := ⟨vx_Zqof (hts (.laysStatic Bundle.tN "UNASSIGNED_STACK" Bundle.steD) (by decide +kernel)) (hts (.initialized Bundle.tN) (by decide +kernel)) (hgs _ (by decide +kernel)) (fun a h => Nat.not_le.mpr h), vx_Zqof (hts (.laysStatic Bundle.tN "SUPPRESSED_SENTINEL" Bundle.listD) (by decide +kernel)) (hts (.initialized Bundle.tN) (by decide +kernel)) (hgs _ (by decide +kernel)) (fun a h => Nat.not_le.mpr h)⟩
  have hC : va_Nc "java/lang/IllegalStateException" "java/lang/IllegalArgumentException" s := va_Nc.of (hgs _ (by decide +kernel))
  have hts1 : ∀ w ∈ wsL_law, w.before #[Value.ref b] s = true := fun w h => hts w (wsL_law_in w h)
  have X : rh_X p s m #[Value.ref b] c cL_law 7 RL wsL_law G [(cyI, .int), (cyZ, .boolean), (cyJ, .long)] rn_C (fun q : Nat => s.heap.size ≤ q) := ⟨hx, hb, hml, hown, hts1, hK, hN, hA⟩
  have S0 : CallFix p m c cL_law 7 s #[Value.ref b] wsL_law RL := ⟨hx, hb, hml, hown, hts1⟩
  have h : rh_W G (fun q : Nat => s.heap.size ≤ q) s s.heap [] [] := ⟨fun k q h => by simp at h, ⟨fun i j p q h => by simp at h, fun k q h => by simp at h⟩, va_S.rf⟩
  have hl := lv_entry ([.ref b]) (n := 7) (Nat.le_of_ble_eq_true rfl)
  rw [lg_entry_eq]
  generalize (lg_sl ([.ref b]) ++ List.replicate (7 - (lg_sl ([.ref b])).length) Slot.unset).toArray = ls at hl ⊢
  have hl : lv_has ls 7 [(0, .ref b)] := hl
  obtain ⟨n, hn1, hn2, hn3⟩ := ck_n_nat (rl_c L xs 0)
  refine va_new (ci := 2) (fs := [.int 0, .int 0, .null, .null, .null, .null, .null, .int 0, .int 0, .int 0, .int 0, .int 0, .int 0, .int 0, .int 0]) (C := RX2) (T := TX2) (N := 15) hx hb hts inX2 tyX2 tyX2_ok hown (hts1 (.classLink RL 8 RX2) (by decide +kernel)) (hts1 (.instantiable RX2 15) (by decide +kernel)) (hts1 (.initialized RX2) (by decide +kernel)) hK h.1 h.2.1 h.2.2 hA rfl (fun j hj => by rcases (show j = 0 ∨ j = 1 ∨ j = 2 ∨ j = 3 ∨ j = 4 ∨ j = 5 ∨ j = 6 ∨ j = 7 ∨ j = 8 ∨ j = 9 ∨ j = 10 ∨ j = 11 ∨ j = 12 ∨ j = 13 ∨ j = 14 by omega) with rfl | rfl | rfl | rfl | rfl | rfl | rfl | rfl | rfl | rfl | rfl | rfl | rfl | rfl | rfl <;> rfl) (Nat.le_of_ble_eq_true rfl) (Nat.le_of_ble_eq_true rfl) dL_law_0 (fun x H hP9 hD9 hS9 => ?_)
  have h : rh_W G (fun q : Nat => s.heap.size ≤ q) s H _ ([] ++ ([(x, .inr (2, [.int 0, .int 0, .null, .null, .null, .null, .null, .int 0, .int 0, .int 0, .int 0, .int 0, .int 0, .int 0, .int 0]))] ++ [])) := ⟨hP9, hD9, hS9⟩
  refine lv_dup hx hb dL_law_3 rfl ?_
  refine lv_aload_n hx hb dL_law_4 rfl (lv_at hl 0 rfl) ?_
  refine lv_iconst (v := 0) hx hb dL_law_5 (by decide) ?_
  refine rl_call S0 hA hbA hbl hX (k := 0) (by decide) (by omega) h (va_cwS 2 hts1 gL_law_L_cell rfl rfl rfl (by decide +kernel) ⟨Nat.le_of_ble_eq_true rfl, Nat.le_of_ble_eq_true rfl⟩) hl.1 (Nat.le_of_ble_eq_true rfl) dL_law_6 ⟨Nat.le_of_ble_eq_true rfl, Nat.le_of_ble_eq_true rfl⟩ (fun H locs h => ?_)
  refine lv_aload_n hx hb dL_law_9 rfl (lv_at hl 0 rfl) ?_
  refine lv_iconst (v := 1) hx hb dL_law_10 (by decide) ?_
  refine rl_call S0 hA hbA hbl hX (k := 1) (by decide) (by omega) h (va_cwS 2 hts1 gL_law_L_cell rfl rfl rfl (by decide +kernel) ⟨Nat.le_of_ble_eq_true rfl, Nat.le_of_ble_eq_true rfl⟩) hl.1 (Nat.le_of_ble_eq_true rfl) dL_law_11 ⟨Nat.le_of_ble_eq_true rfl, Nat.le_of_ble_eq_true rfl⟩ (fun H locs h => ?_)
  refine rj_I S0 hA (hK.sub (tys' := [(cyI, .int), (cyZ, .boolean)]) [0, 1] rfl) hN h (kX2_init l G (cyI := cyI) (cyZ := cyZ) (x := x) hn3 hn2) (cwI 2 hts1 gL_law_X2_init rfl rfl rfl (hts1 (.initialized RX2) (by decide +kernel)) (hts1 (.methodLink RL 52 yX2_init) (by decide +kernel)) (hts1 (.instanceMethod yX2_init) (by decide +kernel)) rfl (by decide +kernel) ⟨Nat.le_of_ble_eq_true rfl, Nat.le_of_ble_eq_true rfl⟩) rfl hl.1 (rest := [.ref x]) rfl (Nat.le_of_ble_eq_true rfl) dL_law_14 ⟨Nat.le_of_ble_eq_true rfl, Nat.le_of_ble_eq_true rfl⟩ (fun ad H locs h => ?_)
  refine lv_astore_n (lv' := [(1, .ref x), (0, .ref b)]) hx hb dL_law_17 rfl hl (by decide) rfl (fun ls hl => ?_)
  have h : rh_W G (fun q : Nat => s.heap.size ≤ q) s H locs (cw cyI cyZ n x ad (c_f0 (rl_c L xs 0) (rl_c L xs 1)) z_g0) := by have h9 := h; simp only [List.nil_append, List.append_nil] at h9; exact h9
  refine va_new (ci := 3) (fs := [.int 0, .int 0, .int 0, .null, .null, .null, .null, .int 0, .null, .null, .int 0, .int 0, .int 0, .int 0, .null, .null, .int 0, .int 0, .int 0, .int 0, .int 0, .int 0]) (C := RX3) (T := TX3) (N := 22) hx hb hts inX3 tyX3 tyX3_ok hown (hts1 (.classLink RL 55 RX3) (by decide +kernel)) (hts1 (.instantiable RX3 22) (by decide +kernel)) (hts1 (.initialized RX3) (by decide +kernel)) hK h.1 h.2.1 h.2.2 hA rfl (fun j hj => by rcases (show j = 0 ∨ j = 1 ∨ j = 2 ∨ j = 3 ∨ j = 4 ∨ j = 5 ∨ j = 6 ∨ j = 7 ∨ j = 8 ∨ j = 9 ∨ j = 10 ∨ j = 11 ∨ j = 12 ∨ j = 13 ∨ j = 14 ∨ j = 15 ∨ j = 16 ∨ j = 17 ∨ j = 18 ∨ j = 19 ∨ j = 20 ∨ j = 21 by omega) with rfl | rfl | rfl | rfl | rfl | rfl | rfl | rfl | rfl | rfl | rfl | rfl | rfl | rfl | rfl | rfl | rfl | rfl | rfl | rfl | rfl | rfl <;> rfl) (Nat.le_of_ble_eq_true rfl) (Nat.le_of_ble_eq_true rfl) dL_law_18 (fun xm H hP9 hD9 hS9 => ?_)
  have h : rh_W G (fun q : Nat => s.heap.size ≤ q) s H _ (cw cyI cyZ n x ad (c_f0 (rl_c L xs 0) (rl_c L xs 1)) z_g0 ++ ([(xm, .inr (3, [.int 0, .int 0, .int 0, .null, .null, .null, .null, .int 0, .null, .null, .int 0, .int 0, .int 0, .int 0, .null, .null, .int 0, .int 0, .int 0, .int 0, .int 0, .int 0]))] ++ [])) := ⟨hP9, hD9, hS9⟩
  refine lv_dup hx hb dL_law_21 rfl ?_
  refine lv_aload_n hx hb dL_law_22 rfl (lv_at hl 1 rfl) ?_
  refine lv_iconst (v := 0) hx hb dL_law_23 (by decide) ?_
  refine rl_call S0 hA hbA hbl hX (k := 0) (by decide) (by omega) h (va_cwS 2 hts1 gL_law_L_cell rfl rfl rfl (by decide +kernel) ⟨Nat.le_of_ble_eq_true rfl, Nat.le_of_ble_eq_true rfl⟩) hl.1 (Nat.le_of_ble_eq_true rfl) dL_law_24 ⟨Nat.le_of_ble_eq_true rfl, Nat.le_of_ble_eq_true rfl⟩ (fun H locs h => ?_)
  refine lv_aload_n hx hb dL_law_27 rfl (lv_at hl 1 rfl) ?_
  refine lv_iconst (v := 1) hx hb dL_law_28 (by decide) ?_
  refine rl_call S0 hA hbA hbl hX (k := 1) (by decide) (by omega) h (va_cwS 2 hts1 gL_law_L_cell rfl rfl rfl (by decide +kernel) ⟨Nat.le_of_ble_eq_true rfl, Nat.le_of_ble_eq_true rfl⟩) hl.1 (Nat.le_of_ble_eq_true rfl) dL_law_29 ⟨Nat.le_of_ble_eq_true rfl, Nat.le_of_ble_eq_true rfl⟩ (fun H locs h => ?_)
  refine rj_I S0 hA (hK.sub (tys' := [(cyI, .int), (cyZ, .boolean)]) [0, 1] rfl) hN h (kX3_init l G (cyI := cyI) (cyZ := cyZ) (x := xm)) (cwI 2 hts1 gL_law_X3_init rfl rfl rfl (hts1 (.initialized RX3) (by decide +kernel)) (hts1 (.methodLink RL 57 yX3_init) (by decide +kernel)) (hts1 (.instanceMethod yX3_init) (by decide +kernel)) rfl (by decide +kernel) ⟨Nat.le_of_ble_eq_true rfl, Nat.le_of_ble_eq_true rfl⟩) rfl hl.1 (rest := [.ref xm]) rfl (Nat.le_of_ble_eq_true rfl) dL_law_32 ⟨Nat.le_of_ble_eq_true rfl, Nat.le_of_ble_eq_true rfl⟩ (fun adm H locs h => ?_)
  refine lv_astore_n (lv' := [(2, .ref xm), (1, .ref x), (0, .ref b)]) hx hb dL_law_35 rfl hl (by decide) rfl (fun ls hl => ?_)
  refine lv_iconst (v := 1) hx hb dL_law_36 (by decide) ?_
  refine rk_newJ X h 2 rfl (by decide +kernel) rfl (N := 1) rfl (by decide) (Nat.le_of_ble_eq_true rfl) (Nat.le_of_ble_eq_true rfl) dL_law_37 (fun o H h => ?_)
  have h : rh_W G (fun q : Nat => s.heap.size ≤ q) s H _ (mw cyI cyZ xm adm (m_f0 (rl_c L xs 0) (rl_c L xs 1)) z_g0 ++ (cw cyI cyZ n x ad (c_f0 (rl_c L xs 0) (rl_c L xs 1)) z_g0 ++ rq_out cyJ o (fun _ => 0))) := ⟨h.1.sub [14, 15, 16, 17, 18, 19, 20, 21, 22, 0, 1, 2, 3, 4, 5, 6, 7, 8, 9, 10, 11, 12, 13, 23] rfl, h.2.1.sub [14, 15, 16, 17, 18, 19, 20, 21, 22, 0, 1, 2, 3, 4, 5, 6, 7, 8, 9, 10, 11, 12, 13, 23] (by decide) rfl, h.2.2⟩
  refine lv_astore_n (lv' := [(3, .ref o), (2, .ref xm), (1, .ref x), (0, .ref b)]) hx hb dL_law_39 rfl hl (by decide) rfl (fun ls hl => ?_)
  refine lv_iconst (v := 2) hx hb dL_law_40 (by decide) ?_
  refine lv_istore (lv' := [(4, .int 2), (3, .ref o), (2, .ref xm), (1, .ref x), (0, .ref b)]) hx hb dL_law_41 hl (by decide) rfl (fun ls hl => ?_)
  exact law_loop hL hlt X hX hbl hU hC hr hlocks hPU 600 0 2 _ _ ls ad _ _ _ _ _ (by omega) (Or.inl rfl) rfl (hPU.2.2.2 n _ _ hn1 hn2 hn3) h (lv_sub hl [0, 4, 3, 2, 1] rfl)
