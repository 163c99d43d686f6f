abbrev rmX0_init : Room := { frames := 1, cells := 2, slots := 1024, locals := 12 }
set_option maxRecDepth 100000 in
theorem iX0_init_X0 : ∀ w ∈ u_ws RX0 TX0 4, w ∈ wsX0_init := by decide +kernel
set_option maxHeartbeats 4000000 in
set_option maxRecDepth 100000 in
theorem kX0_init (l : Launch) (G : va_G) {cyI cyZ : ClassId} {x : Nat} : ∀ sz : Nat, Met l yX0_init wsX0_init rmX0_init (rh_Pre G [(cyI, .int), (cyZ, .boolean)] rn_C [(x, .inr (0, [.null, .null, .int 0, .int 0]))] sz [.ref x]) (va_Qv (S := Nat × Nat) (fun _ => True) (fun u t => rh_At G [(cyI, .int), (cyZ, .boolean)] (va_A [(x, .inr (0, [.null, .null, .int 0, .int 0]))] sz) [(x, .inr (0, [.ref u.1, .ref u.2, .int 0, .int 0])), (u.1, .inl (cyI, 512, .inl (fun _ => 0))), (u.2, .inl (cyI, 512, .inl (fun _ => 0)))] t) (va_A [(x, .inr (0, [.null, .null, .int 0, .int 0]))] sz)) 2 1024 (va_A [(x, .inr (0, [.null, .null, .int 0, .int 0]))] sz) := by
  refine rk_of rfl (by decide +kernel) rfl (Nat.le_of_ble_eq_true rfl) ?_
  intro p e s m below meth c A Q hini X ret ls hl h
  have hx := X.1
  have hb := X.2.1
  have hown := X.2.2.2.1
  have hts := X.2.2.2.2.1
  have hK := X.2.2.2.2.2.1
  have hNN := X.2.2.2.2.2.2.1.2
  refine lv_aload_n hx hb dX0_init_0 rfl (lv_at hl 0 rfl) ?_
  refine W.objInit hx hb hown (hts (.methodLink RX0 3 objectInit) (by decide +kernel)) (hts (.instanceMethod objectInit) (by decide +kernel)) (hts (.code objectInit ⟨#[0xb1]⟩ 1 none) (by decide +kernel)) rfl (hl.1.trans X.2.2.1.symm) rfl dX0_init_1 (Nat.le_of_ble_eq_true rfl) (Nat.le_of_ble_eq_true rfl) ?_
  refine W.eq (g2 := F0 m 4 ls []) rfl ?_
  refine lv_aload_n hx hb dX0_init_4 rfl (lv_at hl 0 rfl) ?_
  refine lv_sipush (v := 512) hx hb dX0_init_5 (by decide) ?_
  refine rk_newI X h 0 rfl (by decide +kernel) rfl rfl (by decide) (Nat.le_of_ble_eq_true rfl) (Nat.le_of_ble_eq_true rfl) dX0_init_8 (fun q0 H h => ?_)
  have h : rh_W G A s H _ ([(x, .inr (0, [.null, .null, .int 0, .int 0])), (q0, .inl (cyI, 512, .inl (fun _ => 0)))]) := h
  refine rk_putF X h hini iX0_init_X0 tyX0 tyX0_ok nmX0 0 0 rfl rfl (by decide) (by decide +kernel) rfl rfl rfl rfl (Nat.le_of_ble_eq_true rfl) dX0_init_10 (fun H locs h => ?_)
  have h : rh_W G A s H _ ([(x, .inr (0, [.ref q0, .null, .int 0, .int 0])), (q0, .inl (cyI, 512, .inl (fun _ => 0)))]) := h
  refine lv_aload_n hx hb dX0_init_13 rfl (lv_at hl 0 rfl) ?_
  refine lv_sipush (v := 512) hx hb dX0_init_14 (by decide) ?_
  refine rk_newI X h 0 rfl (by decide +kernel) rfl rfl (by decide) (Nat.le_of_ble_eq_true rfl) (Nat.le_of_ble_eq_true rfl) dX0_init_17 (fun q1 H h => ?_)
  have h : rh_W G A s H _ ([(x, .inr (0, [.ref q0, .null, .int 0, .int 0])), (q0, .inl (cyI, 512, .inl (fun _ => 0))), (q1, .inl (cyI, 512, .inl (fun _ => 0)))]) := h
  refine rk_putF X h hini iX0_init_X0 tyX0 tyX0_ok nmX0 0 1 rfl rfl (by decide) (by decide +kernel) rfl rfl rfl rfl (Nat.le_of_ble_eq_true rfl) dX0_init_19 (fun H locs h => ?_)
  have h : rh_W G A s H _ ([(x, .inr (0, [.ref q0, .ref q1, .int 0, .int 0])), (q0, .inl (cyI, 512, .inl (fun _ => 0))), (q1, .inl (cyI, 512, .inl (fun _ => 0)))]) := h
  exact ret (q0, q1) _ _ _ _ dX0_init_22 h
abbrev rmX1_init : Room := { frames := 1, cells := 3, slots := 1200, locals := 12 }
set_option maxRecDepth 100000 in
theorem iX1_init_X1 : ∀ w ∈ u_ws RX1 TX1 5, w ∈ wsX1_init := by decide +kernel
set_option maxHeartbeats 4000000 in
set_option maxRecDepth 100000 in
theorem kX1_init (l : Launch) (G : va_G) {cyI cyZ : ClassId} {x n : Nat} {p1 p2 : Int32} (hn : p2 = nI n) (hn4 : n ≤ 400) : ∀ sz : Nat, Met l yX1_init wsX1_init rmX1_init (rh_Pre G [(cyI, .int), (cyZ, .boolean)] rn_C [(x, .inr (1, [.int 0, .null, .null, .null, .int 0]))] sz [.ref x, .int p1, .int p2]) (va_Qv (S := Nat × Nat × Nat) (fun _ => True) (fun u t => rh_At G [(cyI, .int), (cyZ, .boolean)] (va_A [(x, .inr (1, [.int 0, .null, .null, .null, .int 0]))] sz) [(x, .inr (1, [.int p1, .ref u.1, .ref u.2.1, .ref u.2.2, .int 0])), (u.1, .inl (cyI, n, .inl (fun _ => 0))), (u.2.1, .inl (cyI, n, .inl (fun _ => 0))), (u.2.2, .inl (cyI, n, .inl (fun _ => 0)))] t) (va_A [(x, .inr (1, [.int 0, .null, .null, .null, .int 0]))] sz)) 3 1200 (va_A [(x, .inr (1, [.int 0, .null, .null, .null, .int 0]))] sz) := by
  refine rk_of rfl (by decide +kernel) rfl (Nat.le_of_ble_eq_true rfl) ?_
  intro p e s m below meth c A Q hini X ret ls hl h
  have hx := X.1
  have hb := X.2.1
  have hown := X.2.2.2.1
  have hts := X.2.2.2.2.1
  have hK := X.2.2.2.2.2.1
  have hNN := X.2.2.2.2.2.2.1.2
  refine lv_aload_n hx hb dX1_init_0 rfl (lv_at hl 0 rfl) ?_
  refine W.objInit hx hb hown (hts (.methodLink RX1 3 objectInit) (by decide +kernel)) (hts (.instanceMethod objectInit) (by decide +kernel)) (hts (.code objectInit ⟨#[0xb1]⟩ 1 none) (by decide +kernel)) rfl (hl.1.trans X.2.2.1.symm) rfl dX1_init_1 (Nat.le_of_ble_eq_true rfl) (Nat.le_of_ble_eq_true rfl) ?_
  refine W.eq (g2 := F0 m 4 ls []) rfl ?_
  refine lv_aload_n hx hb dX1_init_4 rfl (lv_at hl 0 rfl) ?_
  refine lv_iload_n hx hb dX1_init_5 rfl (lv_at hl 1 rfl) ?_
  refine rk_putF X h hini iX1_init_X1 tyX1 tyX1_ok nmX1 0 0 rfl rfl (by decide) (by decide +kernel) rfl rfl rfl rfl (Nat.le_of_ble_eq_true rfl) dX1_init_6 (fun H locs h => ?_)
  have h : rh_W G A s H _ ([(x, .inr (1, [.int p1, .null, .null, .null, .int 0]))]) := h
  refine lv_aload_n hx hb dX1_init_9 rfl (lv_at hl 0 rfl) ?_
  refine lv_iload_n hx hb dX1_init_10 rfl (lv_at hl 2 rfl) ?_
  refine rk_newI X h 0 rfl (by decide +kernel) rfl hn (by omega) (Nat.le_of_ble_eq_true rfl) (by show _ ≤ 1200; omega) dX1_init_11 (fun q0 H h => ?_)
  have h : rh_W G A s H _ ([(x, .inr (1, [.int p1, .null, .null, .null, .int 0])), (q0, .inl (cyI, n, .inl (fun _ => 0)))]) := h
  refine rk_putF X h hini iX1_init_X1 tyX1 tyX1_ok nmX1 0 1 rfl rfl (by decide) (by decide +kernel) rfl rfl rfl rfl (Nat.le_of_ble_eq_true rfl) dX1_init_13 (fun H locs h => ?_)
  have h : rh_W G A s H _ ([(x, .inr (1, [.int p1, .ref q0, .null, .null, .int 0])), (q0, .inl (cyI, n, .inl (fun _ => 0)))]) := h
  refine lv_aload_n hx hb dX1_init_16 rfl (lv_at hl 0 rfl) ?_
  refine lv_iload_n hx hb dX1_init_17 rfl (lv_at hl 2 rfl) ?_
  refine rk_newI X h 0 rfl (by decide +kernel) rfl hn (by omega) (Nat.le_of_ble_eq_true rfl) (by show _ ≤ 1200; omega) dX1_init_18 (fun q1 H h => ?_)
  have h : rh_W G A s H _ ([(x, .inr (1, [.int p1, .ref q0, .null, .null, .int 0])), (q0, .inl (cyI, n, .inl (fun _ => 0))), (q1, .inl (cyI, n, .inl (fun _ => 0)))]) := h
  refine rk_putF X h hini iX1_init_X1 tyX1 tyX1_ok nmX1 0 2 rfl rfl (by decide) (by decide +kernel) rfl rfl rfl rfl (Nat.le_of_ble_eq_true rfl) dX1_init_20 (fun H locs h => ?_)
  have h : rh_W G A s H _ ([(x, .inr (1, [.int p1, .ref q0, .ref q1, .null, .int 0])), (q0, .inl (cyI, n, .inl (fun _ => 0))), (q1, .inl (cyI, n, .inl (fun _ => 0)))]) := h
  refine lv_aload_n hx hb dX1_init_23 rfl (lv_at hl 0 rfl) ?_
  refine lv_iload_n hx hb dX1_init_24 rfl (lv_at hl 2 rfl) ?_
  refine rk_newI X h 0 rfl (by decide +kernel) rfl hn (by omega) (Nat.le_of_ble_eq_true rfl) (by show _ ≤ 1200; omega) dX1_init_25 (fun q2 H h => ?_)
  have h : rh_W G A s H _ ([(x, .inr (1, [.int p1, .ref q0, .ref q1, .null, .int 0])), (q0, .inl (cyI, n, .inl (fun _ => 0))), (q1, .inl (cyI, n, .inl (fun _ => 0))), (q2, .inl (cyI, n, .inl (fun _ => 0)))]) := h
  refine rk_putF X h hini iX1_init_X1 tyX1 tyX1_ok nmX1 0 3 rfl rfl (by decide) (by decide +kernel) rfl rfl rfl rfl (Nat.le_of_ble_eq_true rfl) dX1_init_27 (fun H locs h => ?_)
  have h : rh_W G A s H _ ([(x, .inr (1, [.int p1, .ref q0, .ref q1, .ref q2, .int 0])), (q0, .inl (cyI, n, .inl (fun _ => 0))), (q1, .inl (cyI, n, .inl (fun _ => 0))), (q2, .inl (cyI, n, .inl (fun _ => 0)))]) := h
  refine W.widen (k := 3) (n := 1200) (by omega) (by omega) ?_
  exact ret (q0, q1, q2) _ _ _ _ dX1_init_30 h
set_option maxHeartbeats 4000000 in
set_option maxRecDepth 100000 in
theorem jX2_n {p : Program} {l : Launch} {e : Env} {R : Room} {s : State} {m : MethodId} {args : Array Value} {below : List Frame} {meth : Method} {c : Code} {H : Heap} {locs : List Loc} {cells slots : Nat} {Q : State → Prop} {ls : Array Slot} {rest : List Value} {v : Int32} (hx : p.tables.exec = Jvm.exec) (hb : c.code = cX2_init) (hl : ls[1]? = some (.val (.int v))) (kk : W p l e R s m args below meth c H locs cells slots Q (F0 m 51 ls (.int (ck_n v) :: rest))) : W p l e R s m args below meth c H locs cells slots Q (F0 m 32 ls rest) := by
  refine lv_iload_n hx hb dX2_init_32 rfl hl ?_
  refine lv_bipush (v := 16) hx hb dX2_init_33 (by decide) ?_
  refine lv_icmp_lt (tgt := 49) hx hb dX2_init_35 (by decide) (fun c1 => ?_) (fun c1 => ?_)
  · refine lv_bipush (v := 64) hx hb dX2_init_49 (by decide) ?_
    rw [show ck_n v = 64 by unfold ck_n; rw [if_pos c1]] at kk
    exact kk
  · refine lv_iload_n hx hb dX2_init_38 rfl hl ?_
    refine lv_sipush (v := 400) hx hb dX2_init_39 (by decide) ?_
    refine lv_icmp_gt (tgt := 49) hx hb dX2_init_42 (by decide) (fun c2 => ?_) (fun c2 => ?_)
    · refine lv_bipush (v := 64) hx hb dX2_init_49 (by decide) ?_
      rw [show ck_n v = 64 by unfold ck_n; rw [if_neg c1, if_pos c2]] at kk
      exact kk
    · refine lv_iload_n hx hb dX2_init_45 rfl hl ?_
      refine lv_goto (tgt := 51) hx hb dX2_init_46 (by decide) ?_
      rw [show ck_n v = v by unfold ck_n; rw [if_neg c1, if_neg c2]] at kk
      exact kk
set_option maxHeartbeats 4000000 in
set_option maxRecDepth 100000 in
theorem jX2_q {p : Program} {l : Launch} {e : Env} {R : Room} {s : State} {m : MethodId} {args : Array Value} {below : List Frame} {meth : Method} {c : Code} {H : Heap} {locs : List Loc} {cells slots : Nat} {Q : State → Prop} {ls : Array Slot} {rest : List Value} {v : Int32} (hx : p.tables.exec = Jvm.exec) (hb : c.code = cX2_init) (hl : ls[2]? = some (.val (.int v))) (kk : W p l e R s m args below meth c H locs cells slots Q (F0 m 71 ls (.int (ck_q v) :: rest))) : W p l e R s m args below meth c H locs cells slots Q (F0 m 55 ls rest) := by
  refine lv_iload_n hx hb dX2_init_55 rfl hl ?_
  refine lv_iconst (v := 1) hx hb dX2_init_56 (by decide) ?_
  refine lv_icmp_lt (tgt := 70) hx hb dX2_init_57 (by decide) (fun c1 => ?_) (fun c1 => ?_)
  · refine lv_iconst (v := 4) hx hb dX2_init_70 (by decide) ?_
    rw [show ck_q v = 4 by unfold ck_q; rw [if_pos c1]] at kk
    exact kk
  · refine lv_iload_n hx hb dX2_init_60 rfl hl ?_
    refine lv_bipush (v := 64) hx hb dX2_init_61 (by decide) ?_
    refine lv_icmp_gt (tgt := 70) hx hb dX2_init_63 (by decide) (fun c2 => ?_) (fun c2 => ?_)
    · refine lv_iconst (v := 4) hx hb dX2_init_70 (by decide) ?_
      rw [show ck_q v = 4 by unfold ck_q; rw [if_neg c1, if_pos c2]] at kk
      exact kk
    · refine lv_iload_n hx hb dX2_init_66 rfl hl ?_
      refine lv_goto (tgt := 71) hx hb dX2_init_67 (by decide) ?_
      rw [show ck_q v = v by unfold ck_q; rw [if_neg c1, if_neg c2]] at kk
      exact kk
set_option maxHeartbeats 4000000 in
set_option maxRecDepth 100000 in
theorem jX3_n {p : Program} {l : Launch} {e : Env} {R : Room} {s : State} {m : MethodId} {args : Array Value} {below : List Frame} {meth : Method} {c : Code} {H : Heap} {locs : List Loc} {cells slots : Nat} {Q : State → Prop} {ls : Array Slot} {rest : List Value} {v : Int32} (hx : p.tables.exec = Jvm.exec) (hb : c.code = cX3_init) (hl : ls[1]? = some (.val (.int v))) (kk : W p l e R s m args below meth c H locs cells slots Q (F0 m 92 ls (.int (ck_n v) :: rest))) : W p l e R s m args below meth c H locs cells slots Q (F0 m 73 ls rest) := by
  refine lv_iload_n hx hb dX3_init_73 rfl hl ?_
  refine lv_bipush (v := 16) hx hb dX3_init_74 (by decide) ?_
  refine lv_icmp_lt (tgt := 90) hx hb dX3_init_76 (by decide) (fun c1 => ?_) (fun c1 => ?_)
  · refine lv_bipush (v := 64) hx hb dX3_init_90 (by decide) ?_
    rw [show ck_n v = 64 by unfold ck_n; rw [if_pos c1]] at kk
    exact kk
  · refine lv_iload_n hx hb dX3_init_79 rfl hl ?_
    refine lv_sipush (v := 400) hx hb dX3_init_80 (by decide) ?_
    refine lv_icmp_gt (tgt := 90) hx hb dX3_init_83 (by decide) (fun c2 => ?_) (fun c2 => ?_)
    · refine lv_bipush (v := 64) hx hb dX3_init_90 (by decide) ?_
      rw [show ck_n v = 64 by unfold ck_n; rw [if_neg c1, if_pos c2]] at kk
      exact kk
    · refine lv_iload_n hx hb dX3_init_86 rfl hl ?_
      refine lv_goto (tgt := 92) hx hb dX3_init_87 (by decide) ?_
      rw [show ck_n v = v by unfold ck_n; rw [if_neg c1, if_neg c2]] at kk
      exact kk
set_option maxHeartbeats 4000000 in
set_option maxRecDepth 100000 in
theorem jX3_q {p : Program} {l : Launch} {e : Env} {R : Room} {s : State} {m : MethodId} {args : Array Value} {below : List Frame} {meth : Method} {c : Code} {H : Heap} {locs : List Loc} {cells slots : Nat} {Q : State → Prop} {ls : Array Slot} {rest : List Value} {v : Int32} (hx : p.tables.exec = Jvm.exec) (hb : c.code = cX3_init) (hl : ls[2]? = some (.val (.int v))) (kk : W p l e R s m args below meth c H locs cells slots Q (F0 m 112 ls (.int (ck_q v) :: rest))) : W p l e R s m args below meth c H locs cells slots Q (F0 m 96 ls rest) := by
  refine lv_iload_n hx hb dX3_init_96 rfl hl ?_
  refine lv_iconst (v := 1) hx hb dX3_init_97 (by decide) ?_
  refine lv_icmp_lt (tgt := 111) hx hb dX3_init_98 (by decide) (fun c1 => ?_) (fun c1 => ?_)
  · refine lv_iconst (v := 4) hx hb dX3_init_111 (by decide) ?_
    rw [show ck_q v = 4 by unfold ck_q; rw [if_pos c1]] at kk
    exact kk
  · refine lv_iload_n hx hb dX3_init_101 rfl hl ?_
    refine lv_bipush (v := 64) hx hb dX3_init_102 (by decide) ?_
    refine lv_icmp_gt (tgt := 111) hx hb dX3_init_104 (by decide) (fun c2 => ?_) (fun c2 => ?_)
    · refine lv_iconst (v := 4) hx hb dX3_init_111 (by decide) ?_
      rw [show ck_q v = 4 by unfold ck_q; rw [if_neg c1, if_pos c2]] at kk
      exact kk
    · refine lv_iload_n hx hb dX3_init_107 rfl hl ?_
      refine lv_goto (tgt := 112) hx hb dX3_init_108 (by decide) ?_
      rw [show ck_q v = v by unfold ck_q; rw [if_neg c1, if_neg c2]] at kk
      exact kk
abbrev rmX3_init : Room := { frames := 1, cells := 8, slots := 10626, locals := 12 }
set_option maxRecDepth 100000 in
theorem iX3_init_X3 : ∀ w ∈ u_ws RX3 TX3 22, w ∈ wsX3_init := by decide +kernel
/-- the reference's numbers at the start -/
def m_f0 (p1 p2 : Int32) : Nat → Int32 := fun k => if k = 1 then ck_n p1 else if k = 2 then ck_q p2 else 0
def z_g0 : Nat → Nat → Int32 := fun _ _ => 0
set_option maxHeartbeats 4000000 in
set_option maxRecDepth 100000 in
theorem kX3_init (l : Launch) (G : va_G) {cyI cyZ : ClassId} {x : Nat} {p1 p2 : Int32} : ∀ sz : Nat, Met l yX3_init wsX3_init rmX3_init (rh_Pre G [(cyI, .int), (cyZ, .boolean)] rn_C [(x, .inr (3, [.int 0, .int 0, .int 0, .null, .null, .null, .null, .int 0, .null, .null, .int 0, .int 0, .int 0, .int 0, .null, .null, .int 0, .int 0, .int 0, .int 0, .int 0, .int 0]))] sz [.ref x, .int p1, .int p2]) (va_Qv (S := Nat → Nat) (fun _ => True) (fun ad t => rh_At G [(cyI, .int), (cyZ, .boolean)] (va_A [(x, .inr (3, [.int 0, .int 0, .int 0, .null, .null, .null, .null, .int 0, .null, .null, .int 0, .int 0, .int 0, .int 0, .null, .null, .int 0, .int 0, .int 0, .int 0, .int 0, .int 0]))] sz) (mw cyI cyZ x ad (m_f0 p1 p2) z_g0) t) (va_A [(x, .inr (3, [.int 0, .int 0, .int 0, .null, .null, .null, .null, .int 0, .null, .null, .int 0, .int 0, .int 0, .int 0, .null, .null, .int 0, .int 0, .int 0, .int 0, .int 0, .int 0]))] sz)) 8 10626 (va_A [(x, .inr (3, [.int 0, .int 0, .int 0, .null, .null, .null, .null, .int 0, .null, .null, .int 0, .int 0, .int 0, .int 0, .null, .null, .int 0, .int 0, .int 0, .int 0, .int 0, .int 0]))] sz) := by
  refine rk_of rfl (by decide +kernel) rfl (Nat.le_of_ble_eq_true rfl) ?_
  intro p e s m below meth c A Q hini X ret ls hl h
  have hx := X.1
  have hb := X.2.1
  have hown := X.2.2.2.1
  have hts := X.2.2.2.2.1
  have hK := X.2.2.2.2.2.1
  have hNN := X.2.2.2.2.2.2.1.2
  refine lv_aload_n hx hb dX3_init_0 rfl (lv_at hl 0 rfl) ?_
  refine W.objInit hx hb hown (hts (.methodLink RX3 1 objectInit) (by decide +kernel)) (hts (.instanceMethod objectInit) (by decide +kernel)) (hts (.code objectInit ⟨#[0xb1]⟩ 1 none) (by decide +kernel)) rfl (hl.1.trans X.2.2.1.symm) rfl dX3_init_1 (Nat.le_of_ble_eq_true rfl) (Nat.le_of_ble_eq_true rfl) ?_
  refine W.eq (g2 := F0 m 4 ls []) rfl ?_
  refine lv_aload_n hx hb dX3_init_4 rfl (lv_at hl 0 rfl) ?_
  refine lv_sipush (v := 800) hx hb dX3_init_5 (by decide) ?_
  refine rk_newI X h 0 rfl (by decide +kernel) rfl rfl (by decide) (Nat.le_of_ble_eq_true rfl) (Nat.le_of_ble_eq_true rfl) dX3_init_8 (fun q0 H h => ?_)
  have h : rh_W G A s H _ ([(x, .inr (3, [.int 0, .int 0, .int 0, .null, .null, .null, .null, .int 0, .null, .null, .int 0, .int 0, .int 0, .int 0, .null, .null, .int 0, .int 0, .int 0, .int 0, .int 0, .int 0])), (q0, .inl (cyI, 800, .inl (fun _ => 0)))]) := h
  refine rk_putF X h hini iX3_init_X3 tyX3 tyX3_ok nmX3 0 3 rfl rfl (by decide) (by decide +kernel) rfl rfl rfl rfl (Nat.le_of_ble_eq_true rfl) dX3_init_10 (fun H locs h => ?_)
  have h : rh_W G A s H _ ([(x, .inr (3, [.int 0, .int 0, .int 0, .ref q0, .null, .null, .null, .int 0, .null, .null, .int 0, .int 0, .int 0, .int 0, .null, .null, .int 0, .int 0, .int 0, .int 0, .int 0, .int 0])), (q0, .inl (cyI, 800, .inl (fun _ => 0)))]) := h
  refine lv_aload_n hx hb dX3_init_13 rfl (lv_at hl 0 rfl) ?_
  refine lv_sipush (v := 800) hx hb dX3_init_14 (by decide) ?_
  refine rk_newI X h 0 rfl (by decide +kernel) rfl rfl (by decide) (Nat.le_of_ble_eq_true rfl) (Nat.le_of_ble_eq_true rfl) dX3_init_17 (fun q1 H h => ?_)
  have h : rh_W G A s H _ ([(x, .inr (3, [.int 0, .int 0, .int 0, .ref q0, .null, .null, .null, .int 0, .null, .null, .int 0, .int 0, .int 0, .int 0, .null, .null, .int 0, .int 0, .int 0, .int 0, .int 0, .int 0])), (q0, .inl (cyI, 800, .inl (fun _ => 0))), (q1, .inl (cyI, 800, .inl (fun _ => 0)))]) := h
  refine rk_putF X h hini iX3_init_X3 tyX3 tyX3_ok nmX3 0 4 rfl rfl (by decide) (by decide +kernel) rfl rfl rfl rfl (Nat.le_of_ble_eq_true rfl) dX3_init_19 (fun H locs h => ?_)
  have h : rh_W G A s H _ ([(x, .inr (3, [.int 0, .int 0, .int 0, .ref q0, .ref q1, .null, .null, .int 0, .null, .null, .int 0, .int 0, .int 0, .int 0, .null, .null, .int 0, .int 0, .int 0, .int 0, .int 0, .int 0])), (q0, .inl (cyI, 800, .inl (fun _ => 0))), (q1, .inl (cyI, 800, .inl (fun _ => 0)))]) := h
  refine lv_aload_n hx hb dX3_init_22 rfl (lv_at hl 0 rfl) ?_
  refine lv_sipush (v := 800) hx hb dX3_init_23 (by decide) ?_
  refine rk_newI X h 0 rfl (by decide +kernel) rfl rfl (by decide) (Nat.le_of_ble_eq_true rfl) (Nat.le_of_ble_eq_true rfl) dX3_init_26 (fun q2 H h => ?_)
  have h : rh_W G A s H _ ([(x, .inr (3, [.int 0, .int 0, .int 0, .ref q0, .ref q1, .null, .null, .int 0, .null, .null, .int 0, .int 0, .int 0, .int 0, .null, .null, .int 0, .int 0, .int 0, .int 0, .int 0, .int 0])), (q0, .inl (cyI, 800, .inl (fun _ => 0))), (q1, .inl (cyI, 800, .inl (fun _ => 0))), (q2, .inl (cyI, 800, .inl (fun _ => 0)))]) := h
  refine rk_putF X h hini iX3_init_X3 tyX3 tyX3_ok nmX3 0 5 rfl rfl (by decide) (by decide +kernel) rfl rfl rfl rfl (Nat.le_of_ble_eq_true rfl) dX3_init_28 (fun H locs h => ?_)
  have h : rh_W G A s H _ ([(x, .inr (3, [.int 0, .int 0, .int 0, .ref q0, .ref q1, .ref q2, .null, .int 0, .null, .null, .int 0, .int 0, .int 0, .int 0, .null, .null, .int 0, .int 0, .int 0, .int 0, .int 0, .int 0])), (q0, .inl (cyI, 800, .inl (fun _ => 0))), (q1, .inl (cyI, 800, .inl (fun _ => 0))), (q2, .inl (cyI, 800, .inl (fun _ => 0)))]) := h
  refine lv_aload_n hx hb dX3_init_31 rfl (lv_at hl 0 rfl) ?_
  refine lv_iconst (v := 2) hx hb dX3_init_32 (by decide) ?_
  refine rk_newI X h 0 rfl (by decide +kernel) rfl rfl (by decide) (Nat.le_of_ble_eq_true rfl) (Nat.le_of_ble_eq_true rfl) dX3_init_33 (fun q3 H h => ?_)
  have h : rh_W G A s H _ ([(x, .inr (3, [.int 0, .int 0, .int 0, .ref q0, .ref q1, .ref q2, .null, .int 0, .null, .null, .int 0, .int 0, .int 0, .int 0, .null, .null, .int 0, .int 0, .int 0, .int 0, .int 0, .int 0])), (q0, .inl (cyI, 800, .inl (fun _ => 0))), (q1, .inl (cyI, 800, .inl (fun _ => 0))), (q2, .inl (cyI, 800, .inl (fun _ => 0))), (q3, .inl (cyI, 2, .inl (fun _ => 0)))]) := h
  refine rk_putF X h hini iX3_init_X3 tyX3 tyX3_ok nmX3 0 6 rfl rfl (by decide) (by decide +kernel) rfl rfl rfl rfl (Nat.le_of_ble_eq_true rfl) dX3_init_35 (fun H locs h => ?_)
  have h : rh_W G A s H _ ([(x, .inr (3, [.int 0, .int 0, .int 0, .ref q0, .ref q1, .ref q2, .ref q3, .int 0, .null, .null, .int 0, .int 0, .int 0, .int 0, .null, .null, .int 0, .int 0, .int 0, .int 0, .int 0, .int 0])), (q0, .inl (cyI, 800, .inl (fun _ => 0))), (q1, .inl (cyI, 800, .inl (fun _ => 0))), (q2, .inl (cyI, 800, .inl (fun _ => 0))), (q3, .inl (cyI, 2, .inl (fun _ => 0)))]) := h
  refine lv_aload_n hx hb dX3_init_38 rfl (lv_at hl 0 rfl) ?_
  refine lv_bipush (v := 16) hx hb dX3_init_39 (by decide) ?_
  refine rk_newZ X h 1 rfl (by decide +kernel) rfl rfl (by decide) (Nat.le_of_ble_eq_true rfl) (Nat.le_of_ble_eq_true rfl) dX3_init_41 (fun q4 H h => ?_)
  have h : rh_W G A s H _ ([(x, .inr (3, [.int 0, .int 0, .int 0, .ref q0, .ref q1, .ref q2, .ref q3, .int 0, .null, .null, .int 0, .int 0, .int 0, .int 0, .null, .null, .int 0, .int 0, .int 0, .int 0, .int 0, .int 0])), (q0, .inl (cyI, 800, .inl (fun _ => 0))), (q1, .inl (cyI, 800, .inl (fun _ => 0))), (q2, .inl (cyI, 800, .inl (fun _ => 0))), (q3, .inl (cyI, 2, .inl (fun _ => 0))), (q4, .inl (cyZ, 16, .inl (fun _ => 0)))]) := h
  refine rk_putF X h hini iX3_init_X3 tyX3 tyX3_ok nmX3 0 8 rfl rfl (by decide) (by decide +kernel) rfl rfl rfl rfl (Nat.le_of_ble_eq_true rfl) dX3_init_43 (fun H locs h => ?_)
  have h : rh_W G A s H _ ([(x, .inr (3, [.int 0, .int 0, .int 0, .ref q0, .ref q1, .ref q2, .ref q3, .int 0, .ref q4, .null, .int 0, .int 0, .int 0, .int 0, .null, .null, .int 0, .int 0, .int 0, .int 0, .int 0, .int 0])), (q0, .inl (cyI, 800, .inl (fun _ => 0))), (q1, .inl (cyI, 800, .inl (fun _ => 0))), (q2, .inl (cyI, 800, .inl (fun _ => 0))), (q3, .inl (cyI, 2, .inl (fun _ => 0))), (q4, .inl (cyZ, 16, .inl (fun _ => 0)))]) := h
  refine lv_aload_n hx hb dX3_init_46 rfl (lv_at hl 0 rfl) ?_
  refine lv_bipush (v := 16) hx hb dX3_init_47 (by decide) ?_
  refine rk_newI X h 0 rfl (by decide +kernel) rfl rfl (by decide) (Nat.le_of_ble_eq_true rfl) (Nat.le_of_ble_eq_true rfl) dX3_init_49 (fun q5 H h => ?_)
  have h : rh_W G A s H _ ([(x, .inr (3, [.int 0, .int 0, .int 0, .ref q0, .ref q1, .ref q2, .ref q3, .int 0, .ref q4, .null, .int 0, .int 0, .int 0, .int 0, .null, .null, .int 0, .int 0, .int 0, .int 0, .int 0, .int 0])), (q0, .inl (cyI, 800, .inl (fun _ => 0))), (q1, .inl (cyI, 800, .inl (fun _ => 0))), (q2, .inl (cyI, 800, .inl (fun _ => 0))), (q3, .inl (cyI, 2, .inl (fun _ => 0))), (q4, .inl (cyZ, 16, .inl (fun _ => 0))), (q5, .inl (cyI, 16, .inl (fun _ => 0)))]) := h
  refine rk_putF X h hini iX3_init_X3 tyX3 tyX3_ok nmX3 0 9 rfl rfl (by decide) (by decide +kernel) rfl rfl rfl rfl (Nat.le_of_ble_eq_true rfl) dX3_init_51 (fun H locs h => ?_)
  have h : rh_W G A s H _ ([(x, .inr (3, [.int 0, .int 0, .int 0, .ref q0, .ref q1, .ref q2, .ref q3, .int 0, .ref q4, .ref q5, .int 0, .int 0, .int 0, .int 0, .null, .null, .int 0, .int 0, .int 0, .int 0, .int 0, .int 0])), (q0, .inl (cyI, 800, .inl (fun _ => 0))), (q1, .inl (cyI, 800, .inl (fun _ => 0))), (q2, .inl (cyI, 800, .inl (fun _ => 0))), (q3, .inl (cyI, 2, .inl (fun _ => 0))), (q4, .inl (cyZ, 16, .inl (fun _ => 0))), (q5, .inl (cyI, 16, .inl (fun _ => 0)))]) := h
  refine lv_aload_n hx hb dX3_init_54 rfl (lv_at hl 0 rfl) ?_
  refine lv_sipush (v := 4096) hx hb dX3_init_55 (by decide) ?_
  refine rk_newI X h 0 rfl (by decide +kernel) rfl rfl (by decide) (Nat.le_of_ble_eq_true rfl) (Nat.le_of_ble_eq_true rfl) dX3_init_58 (fun q6 H h => ?_)
  have h : rh_W G A s H _ ([(x, .inr (3, [.int 0, .int 0, .int 0, .ref q0, .ref q1, .ref q2, .ref q3, .int 0, .ref q4, .ref q5, .int 0, .int 0, .int 0, .int 0, .null, .null, .int 0, .int 0, .int 0, .int 0, .int 0, .int 0])), (q0, .inl (cyI, 800, .inl (fun _ => 0))), (q1, .inl (cyI, 800, .inl (fun _ => 0))), (q2, .inl (cyI, 800, .inl (fun _ => 0))), (q3, .inl (cyI, 2, .inl (fun _ => 0))), (q4, .inl (cyZ, 16, .inl (fun _ => 0))), (q5, .inl (cyI, 16, .inl (fun _ => 0))), (q6, .inl (cyI, 4096, .inl (fun _ => 0)))]) := h
  refine rk_putF X h hini iX3_init_X3 tyX3 tyX3_ok nmX3 0 14 rfl rfl (by decide) (by decide +kernel) rfl rfl rfl rfl (Nat.le_of_ble_eq_true rfl) dX3_init_60 (fun H locs h => ?_)
  have h : rh_W G A s H _ ([(x, .inr (3, [.int 0, .int 0, .int 0, .ref q0, .ref q1, .ref q2, .ref q3, .int 0, .ref q4, .ref q5, .int 0, .int 0, .int 0, .int 0, .ref q6, .null, .int 0, .int 0, .int 0, .int 0, .int 0, .int 0])), (q0, .inl (cyI, 800, .inl (fun _ => 0))), (q1, .inl (cyI, 800, .inl (fun _ => 0))), (q2, .inl (cyI, 800, .inl (fun _ => 0))), (q3, .inl (cyI, 2, .inl (fun _ => 0))), (q4, .inl (cyZ, 16, .inl (fun _ => 0))), (q5, .inl (cyI, 16, .inl (fun _ => 0))), (q6, .inl (cyI, 4096, .inl (fun _ => 0)))]) := h
  refine lv_aload_n hx hb dX3_init_63 rfl (lv_at hl 0 rfl) ?_
  refine lv_sipush (v := 4096) hx hb dX3_init_64 (by decide) ?_
  refine rk_newI X h 0 rfl (by decide +kernel) rfl rfl (by decide) (Nat.le_of_ble_eq_true rfl) (Nat.le_of_ble_eq_true rfl) dX3_init_67 (fun q7 H h => ?_)
  have h : rh_W G A s H _ ([(x, .inr (3, [.int 0, .int 0, .int 0, .ref q0, .ref q1, .ref q2, .ref q3, .int 0, .ref q4, .ref q5, .int 0, .int 0, .int 0, .int 0, .ref q6, .null, .int 0, .int 0, .int 0, .int 0, .int 0, .int 0])), (q0, .inl (cyI, 800, .inl (fun _ => 0))), (q1, .inl (cyI, 800, .inl (fun _ => 0))), (q2, .inl (cyI, 800, .inl (fun _ => 0))), (q3, .inl (cyI, 2, .inl (fun _ => 0))), (q4, .inl (cyZ, 16, .inl (fun _ => 0))), (q5, .inl (cyI, 16, .inl (fun _ => 0))), (q6, .inl (cyI, 4096, .inl (fun _ => 0))), (q7, .inl (cyI, 4096, .inl (fun _ => 0)))]) := h
  refine rk_putF X h hini iX3_init_X3 tyX3 tyX3_ok nmX3 0 15 rfl rfl (by decide) (by decide +kernel) rfl rfl rfl rfl (Nat.le_of_ble_eq_true rfl) dX3_init_69 (fun H locs h => ?_)
  have h : rh_W G A s H _ ([(x, .inr (3, [.int 0, .int 0, .int 0, .ref q0, .ref q1, .ref q2, .ref q3, .int 0, .ref q4, .ref q5, .int 0, .int 0, .int 0, .int 0, .ref q6, .ref q7, .int 0, .int 0, .int 0, .int 0, .int 0, .int 0])), (q0, .inl (cyI, 800, .inl (fun _ => 0))), (q1, .inl (cyI, 800, .inl (fun _ => 0))), (q2, .inl (cyI, 800, .inl (fun _ => 0))), (q3, .inl (cyI, 2, .inl (fun _ => 0))), (q4, .inl (cyZ, 16, .inl (fun _ => 0))), (q5, .inl (cyI, 16, .inl (fun _ => 0))), (q6, .inl (cyI, 4096, .inl (fun _ => 0))), (q7, .inl (cyI, 4096, .inl (fun _ => 0)))]) := h
  refine lv_aload_n hx hb dX3_init_72 rfl (lv_at hl 0 rfl) ?_
  refine jX3_n hx hb (lv_at hl 1 rfl) ?_
  refine rk_putF X h hini iX3_init_X3 tyX3 tyX3_ok nmX3 0 1 rfl rfl (by decide) (by decide +kernel) rfl rfl rfl rfl (Nat.le_of_ble_eq_true rfl) dX3_init_92 (fun H locs h => ?_)
  have h : rh_W G A s H _ ([(x, .inr (3, [.int 0, .int (ck_n p1), .int 0, .ref q0, .ref q1, .ref q2, .ref q3, .int 0, .ref q4, .ref q5, .int 0, .int 0, .int 0, .int 0, .ref q6, .ref q7, .int 0, .int 0, .int 0, .int 0, .int 0, .int 0])), (q0, .inl (cyI, 800, .inl (fun _ => 0))), (q1, .inl (cyI, 800, .inl (fun _ => 0))), (q2, .inl (cyI, 800, .inl (fun _ => 0))), (q3, .inl (cyI, 2, .inl (fun _ => 0))), (q4, .inl (cyZ, 16, .inl (fun _ => 0))), (q5, .inl (cyI, 16, .inl (fun _ => 0))), (q6, .inl (cyI, 4096, .inl (fun _ => 0))), (q7, .inl (cyI, 4096, .inl (fun _ => 0)))]) := h
  refine lv_aload_n hx hb dX3_init_95 rfl (lv_at hl 0 rfl) ?_
  refine jX3_q hx hb (lv_at hl 2 rfl) ?_
  refine rk_putF X h hini iX3_init_X3 tyX3 tyX3_ok nmX3 0 2 rfl rfl (by decide) (by decide +kernel) rfl rfl rfl rfl (Nat.le_of_ble_eq_true rfl) dX3_init_112 (fun H locs h => ?_)
  have h : rh_W G A s H _ ([(x, .inr (3, [.int 0, .int (ck_n p1), .int (ck_q p2), .ref q0, .ref q1, .ref q2, .ref q3, .int 0, .ref q4, .ref q5, .int 0, .int 0, .int 0, .int 0, .ref q6, .ref q7, .int 0, .int 0, .int 0, .int 0, .int 0, .int 0])), (q0, .inl (cyI, 800, .inl (fun _ => 0))), (q1, .inl (cyI, 800, .inl (fun _ => 0))), (q2, .inl (cyI, 800, .inl (fun _ => 0))), (q3, .inl (cyI, 2, .inl (fun _ => 0))), (q4, .inl (cyZ, 16, .inl (fun _ => 0))), (q5, .inl (cyI, 16, .inl (fun _ => 0))), (q6, .inl (cyI, 4096, .inl (fun _ => 0))), (q7, .inl (cyI, 4096, .inl (fun _ => 0)))]) := h
  exact ret (fun k => [x, q0, q1, q2, q3, q4, q5, q6, q7].getD k 0) _ _ _ _ dX3_init_115 h
abbrev rmX2_init : Room := { frames := 2, cells := 13, slots := 3470, locals := 34 }
set_option maxRecDepth 100000 in
theorem iX2_init_X0 : ∀ w ∈ u_ws RX0 TX0 4, w ∈ wsX2_init := by decide +kernel
set_option maxRecDepth 100000 in
theorem iX2_init_X1 : ∀ w ∈ u_ws RX1 TX1 5, w ∈ wsX2_init := by decide +kernel
set_option maxRecDepth 100000 in
theorem iX2_init_X2 : ∀ w ∈ u_ws RX2 TX2 15, w ∈ wsX2_init := by decide +kernel
/-- the class's numbers at the start -/
def c_f0 (p1 p2 : Int32) : Nat → Int32 := fun k => if k = 0 then ck_n p1 else if k = 1 then ck_q p2 else if k = 14 then 1 else 0
set_option maxHeartbeats 4000000 in
set_option maxRecDepth 100000 in
theorem kX2_init (l : Launch) (G : va_G) {cyI cyZ : ClassId} {x n : Nat} {p1 p2 : Int32} (hn : ck_n p1 = nI n) (hn4 : n ≤ 400) : ∀ sz : Nat, Met l yX2_init wsX2_init rmX2_init (rh_Pre G [(cyI, .int), (cyZ, .boolean)] rn_C [(x, .inr (2, [.int 0, .int 0, .null, .null, .null, .null, .null, .int 0, .int 0, .int 0, .int 0, .int 0, .int 0, .int 0, .int 0]))] sz [.ref x, .int p1, .int p2]) (va_Qv (S := Nat → Nat) (fun _ => True) (fun ad t => rh_At G [(cyI, .int), (cyZ, .boolean)] (va_A [(x, .inr (2, [.int 0, .int 0, .null, .null, .null, .null, .null, .int 0, .int 0, .int 0, .int 0, .int 0, .int 0, .int 0, .int 0]))] sz) (cw cyI cyZ n x ad (c_f0 p1 p2) z_g0) t) (va_A [(x, .inr (2, [.int 0, .int 0, .null, .null, .null, .null, .null, .int 0, .int 0, .int 0, .int 0, .int 0, .int 0, .int 0, .int 0]))] sz)) 13 3470 (va_A [(x, .inr (2, [.int 0, .int 0, .null, .null, .null, .null, .null, .int 0, .int 0, .int 0, .int 0, .int 0, .int 0, .int 0, .int 0]))] sz) := by
  refine rk_of rfl (by decide +kernel) rfl (Nat.le_of_ble_eq_true rfl) ?_
  intro p e s m below meth c A Q hini X ret ls hl h
  have hx := X.1
  have hb := X.2.1
  have hown := X.2.2.2.1
  have hts := X.2.2.2.2.1
  have hK := X.2.2.2.2.2.1
  have hNN := X.2.2.2.2.2.2.1.2
  refine lv_aload_n hx hb dX2_init_0 rfl (lv_at hl 0 rfl) ?_
  refine W.objInit hx hb hown (hts (.methodLink RX2 1 objectInit) (by decide +kernel)) (hts (.instanceMethod objectInit) (by decide +kernel)) (hts (.code objectInit ⟨#[0xb1]⟩ 1 none) (by decide +kernel)) rfl (hl.1.trans X.2.2.1.symm) rfl dX2_init_1 (Nat.le_of_ble_eq_true rfl) (Nat.le_of_ble_eq_true rfl) ?_
  refine W.eq (g2 := F0 m 4 ls []) rfl ?_
  refine lv_aload_n hx hb dX2_init_4 rfl (lv_at hl 0 rfl) ?_
  refine lv_bipush (v := 16) hx hb dX2_init_5 (by decide) ?_
  refine rk_newZ X h 1 rfl (by decide +kernel) rfl rfl (by decide) (Nat.le_of_ble_eq_true rfl) (Nat.le_of_ble_eq_true rfl) dX2_init_7 (fun q0 H h => ?_)
  have h : rh_W G A s H _ ([(x, .inr (2, [.int 0, .int 0, .null, .null, .null, .null, .null, .int 0, .int 0, .int 0, .int 0, .int 0, .int 0, .int 0, .int 0])), (q0, .inl (cyZ, 16, .inl (fun _ => 0)))]) := h
  refine rk_putF X h hini iX2_init_X2 tyX2 tyX2_ok nmX2 0 2 rfl rfl (by decide) (by decide +kernel) rfl rfl rfl rfl (Nat.le_of_ble_eq_true rfl) dX2_init_9 (fun H locs h => ?_)
  have h : rh_W G A s H _ ([(x, .inr (2, [.int 0, .int 0, .ref q0, .null, .null, .null, .null, .int 0, .int 0, .int 0, .int 0, .int 0, .int 0, .int 0, .int 0])), (q0, .inl (cyZ, 16, .inl (fun _ => 0)))]) := h
  refine lv_aload_n hx hb dX2_init_12 rfl (lv_at hl 0 rfl) ?_
  refine lv_bipush (v := 16) hx hb dX2_init_13 (by decide) ?_
  refine rk_newI X h 0 rfl (by decide +kernel) rfl rfl (by decide) (Nat.le_of_ble_eq_true rfl) (Nat.le_of_ble_eq_true rfl) dX2_init_15 (fun q1 H h => ?_)
  have h : rh_W G A s H _ ([(x, .inr (2, [.int 0, .int 0, .ref q0, .null, .null, .null, .null, .int 0, .int 0, .int 0, .int 0, .int 0, .int 0, .int 0, .int 0])), (q0, .inl (cyZ, 16, .inl (fun _ => 0))), (q1, .inl (cyI, 16, .inl (fun _ => 0)))]) := h
  refine rk_putF X h hini iX2_init_X2 tyX2 tyX2_ok nmX2 0 3 rfl rfl (by decide) (by decide +kernel) rfl rfl rfl rfl (Nat.le_of_ble_eq_true rfl) dX2_init_17 (fun H locs h => ?_)
  have h : rh_W G A s H _ ([(x, .inr (2, [.int 0, .int 0, .ref q0, .ref q1, .null, .null, .null, .int 0, .int 0, .int 0, .int 0, .int 0, .int 0, .int 0, .int 0])), (q0, .inl (cyZ, 16, .inl (fun _ => 0))), (q1, .inl (cyI, 16, .inl (fun _ => 0)))]) := h
  refine lv_aload_n hx hb dX2_init_20 rfl (lv_at hl 0 rfl) ?_
  refine va_new (ci := 0) (fs := [.null, .null, .int 0, .int 0]) (C := RX0) (T := TX0) (N := 4) hx hb hts iX2_init_X0 tyX0 tyX0_ok hown (hts (.classLink RX2 17 RX0) (by decide +kernel)) (hts (.instantiable RX0 4) (by decide +kernel)) (hts (.initialized RX0) (by decide +kernel)) hK h.1 h.2.1 h.2.2 X.2.2.2.2.2.2.2 rfl (fun j hj => by rcases (show j = 0 ∨ j = 1 ∨ j = 2 ∨ j = 3 by omega) with rfl | rfl | rfl | rfl <;> rfl) (Nat.le_of_ble_eq_true rfl) (Nat.le_of_ble_eq_true rfl) dX2_init_21 (fun q2 H hP9 hD9 hS9 => ?_)
  have h : rh_W G A s H _ _ := ⟨hP9, hD9, hS9⟩
  have h : rh_W G A s H _ ([(x, .inr (2, [.int 0, .int 0, .ref q0, .ref q1, .null, .null, .null, .int 0, .int 0, .int 0, .int 0, .int 0, .int 0, .int 0, .int 0])), (q0, .inl (cyZ, 16, .inl (fun _ => 0))), (q1, .inl (cyI, 16, .inl (fun _ => 0))), (q2, .inr (0, [.null, .null, .int 0, .int 0]))]) := h
  refine lv_dup hx hb dX2_init_24 rfl ?_
  have hPc := h.1.sub (ws' := [(q2, .inr (0, [.null, .null, .int 0, .int 0]))]) [3] rfl
  have hDc := h.2.1.sub (ws' := [(q2, .inr (0, [.null, .null, .int 0, .int 0]))]) [3] (by decide) rfl
  have hFc := va_free (wc := [(q2, .inr (0, [.null, .null, .int 0, .int 0]))]) h.2.1 h.2.2 X.2.2.2.2.2.2.2 [3] rfl
  refine va_callv (va_runIN (As := []) (rest := [.ref q2, .ref x]) ⟨hx, hb, X.2.2.1, hown, hts⟩ (kX0_init l G (x := q2) H.size) ⟨va_cnB (host := RX2) 0 hts ggX2_init_X0_init rfl rfl rfl (hNN _ (by decide +kernel)) (hts (.initialized RX0) (by decide +kernel)) (by decide +kernel) ⟨Nat.le_of_ble_eq_true rfl, Nat.le_of_ble_eq_true rfl⟩, rfl, hts (.instanceMethod yX0_init) (by decide +kernel)⟩ ⟨rh_blind, fun U hU hW => ⟨rfl, by rw [hU], by rw [hU]; exact hPc, va_K.moved hW.alike hK, hDc.weaken (fun _ _ _ _ => trivial), rn.warm hW X.2.2.2.2.2.2.1⟩⟩ rfl rfl hl.1 rfl (lv_room (Nat.le_of_ble_eq_true rfl)) dX2_init_25 ⟨Nat.le_of_ble_eq_true rfl, Nat.le_of_ble_eq_true rfl⟩) h.2.2 (fun q _ h => hFc q h) hFc (fun u t H1 locs ht hvm hw hB hz1 hk1 hS => ?_)
  obtain ⟨a0, a1⟩ := u
  obtain ⟨hP1, hK1, hD1⟩ := hB
  rw [ht] at hP1
  have h9 := va_join (wr := [(x, .inr (2, [.int 0, .int 0, .ref q0, .ref q1, .null, .null, .null, .int 0, .int 0, .int 0, .int 0, .int 0, .int 0, .int 0, .int 0])), (q0, .inl (cyZ, 16, .inl (fun _ => 0))), (q1, .inl (cyI, 16, .inl (fun _ => 0)))]) h.1 h.2.1 [3] [0, 1, 2] rfl rfl (by decide) (by decide) hk1 hFc hP1 hD1
  have h : rh_W G A s H1 _ ([(x, .inr (2, [.int 0, .int 0, .ref q0, .ref q1, .null, .null, .null, .int 0, .int 0, .int 0, .int 0, .int 0, .int 0, .int 0, .int 0])), (q0, .inl (cyZ, 16, .inl (fun _ => 0))), (q1, .inl (cyI, 16, .inl (fun _ => 0))), (q2, .inr (0, [.ref a0, .ref a1, .int 0, .int 0])), (a0, .inl (cyI, 512, .inl (fun _ => 0))), (a1, .inl (cyI, 512, .inl (fun _ => 0)))]) := ⟨h9.1, h9.2, hS⟩
  refine rk_putF X h hini iX2_init_X2 tyX2 tyX2_ok nmX2 0 4 rfl rfl (by decide) (by decide +kernel) rfl rfl rfl rfl (Nat.le_of_ble_eq_true rfl) dX2_init_28 (fun H locs h => ?_)
  have h : rh_W G A s H _ ([(x, .inr (2, [.int 0, .int 0, .ref q0, .ref q1, .ref q2, .null, .null, .int 0, .int 0, .int 0, .int 0, .int 0, .int 0, .int 0, .int 0])), (q0, .inl (cyZ, 16, .inl (fun _ => 0))), (q1, .inl (cyI, 16, .inl (fun _ => 0))), (q2, .inr (0, [.ref a0, .ref a1, .int 0, .int 0])), (a0, .inl (cyI, 512, .inl (fun _ => 0))), (a1, .inl (cyI, 512, .inl (fun _ => 0)))]) := h
  refine lv_aload_n hx hb dX2_init_31 rfl (lv_at hl 0 rfl) ?_
  refine jX2_n hx hb (lv_at hl 1 rfl) ?_
  refine rk_putF X h hini iX2_init_X2 tyX2 tyX2_ok nmX2 0 0 rfl rfl (by decide) (by decide +kernel) rfl rfl rfl rfl (Nat.le_of_ble_eq_true rfl) dX2_init_51 (fun H locs h => ?_)
  have h : rh_W G A s H _ ([(x, .inr (2, [.int (ck_n p1), .int 0, .ref q0, .ref q1, .ref q2, .null, .null, .int 0, .int 0, .int 0, .int 0, .int 0, .int 0, .int 0, .int 0])), (q0, .inl (cyZ, 16, .inl (fun _ => 0))), (q1, .inl (cyI, 16, .inl (fun _ => 0))), (q2, .inr (0, [.ref a0, .ref a1, .int 0, .int 0])), (a0, .inl (cyI, 512, .inl (fun _ => 0))), (a1, .inl (cyI, 512, .inl (fun _ => 0)))]) := h
  refine lv_aload_n hx hb dX2_init_54 rfl (lv_at hl 0 rfl) ?_
  refine jX2_q hx hb (lv_at hl 2 rfl) ?_
  refine rk_putF X h hini iX2_init_X2 tyX2 tyX2_ok nmX2 0 1 rfl rfl (by decide) (by decide +kernel) rfl rfl rfl rfl (Nat.le_of_ble_eq_true rfl) dX2_init_71 (fun H locs h => ?_)
  have h : rh_W G A s H _ ([(x, .inr (2, [.int (ck_n p1), .int (ck_q p2), .ref q0, .ref q1, .ref q2, .null, .null, .int 0, .int 0, .int 0, .int 0, .int 0, .int 0, .int 0, .int 0])), (q0, .inl (cyZ, 16, .inl (fun _ => 0))), (q1, .inl (cyI, 16, .inl (fun _ => 0))), (q2, .inr (0, [.ref a0, .ref a1, .int 0, .int 0])), (a0, .inl (cyI, 512, .inl (fun _ => 0))), (a1, .inl (cyI, 512, .inl (fun _ => 0)))]) := h
  refine lv_aload_n hx hb dX2_init_74 rfl (lv_at hl 0 rfl) ?_
  refine va_new (ci := 1) (fs := [.int 0, .null, .null, .null, .int 0]) (C := RX1) (T := TX1) (N := 5) hx hb hts iX2_init_X1 tyX1 tyX1_ok hown (hts (.classLink RX2 31 RX1) (by decide +kernel)) (hts (.instantiable RX1 5) (by decide +kernel)) (hts (.initialized RX1) (by decide +kernel)) hK h.1 h.2.1 h.2.2 X.2.2.2.2.2.2.2 rfl (fun j hj => by rcases (show j = 0 ∨ j = 1 ∨ j = 2 ∨ j = 3 ∨ j = 4 by omega) with rfl | rfl | rfl | rfl | rfl <;> rfl) (Nat.le_of_ble_eq_true rfl) (Nat.le_of_ble_eq_true rfl) dX2_init_75 (fun q3 H hP9 hD9 hS9 => ?_)
  have h : rh_W G A s H _ _ := ⟨hP9, hD9, hS9⟩
  have h : rh_W G A s H _ ([(x, .inr (2, [.int (ck_n p1), .int (ck_q p2), .ref q0, .ref q1, .ref q2, .null, .null, .int 0, .int 0, .int 0, .int 0, .int 0, .int 0, .int 0, .int 0])), (q0, .inl (cyZ, 16, .inl (fun _ => 0))), (q1, .inl (cyI, 16, .inl (fun _ => 0))), (q2, .inr (0, [.ref a0, .ref a1, .int 0, .int 0])), (a0, .inl (cyI, 512, .inl (fun _ => 0))), (a1, .inl (cyI, 512, .inl (fun _ => 0))), (q3, .inr (1, [.int 0, .null, .null, .null, .int 0]))]) := h
  refine lv_dup hx hb dX2_init_78 rfl ?_
  refine lv_iconst (v := 0) hx hb dX2_init_79 (by decide) ?_
  refine lv_aload_n hx hb dX2_init_80 rfl (lv_at hl 0 rfl) ?_
  refine rh_get X h (v := .int (ck_n p1)) iX2_init_X2 0 0 rfl rfl (by decide) (by decide +kernel) rfl dX2_init_81 ?_
  have hPc := h.1.sub (ws' := [(q3, .inr (1, [.int 0, .null, .null, .null, .int 0]))]) [6] rfl
  have hDc := h.2.1.sub (ws' := [(q3, .inr (1, [.int 0, .null, .null, .null, .int 0]))]) [6] (by decide) rfl
  have hFc := va_free (wc := [(q3, .inr (1, [.int 0, .null, .null, .null, .int 0]))]) h.2.1 h.2.2 X.2.2.2.2.2.2.2 [6] rfl
  refine va_callv (va_runIN (As := [.int 0, .int (ck_n p1)]) (rest := [.ref q3, .ref x]) ⟨hx, hb, X.2.2.1, hown, hts⟩ (kX1_init l G (x := q3) (p1 := 0) hn hn4 H.size) ⟨va_cnB (host := RX2) 2 hts ggX2_init_X1_init rfl rfl rfl (hNN _ (by decide +kernel)) (hts (.initialized RX1) (by decide +kernel)) (by decide +kernel) ⟨Nat.le_of_ble_eq_true rfl, Nat.le_of_ble_eq_true rfl⟩, rfl, hts (.instanceMethod yX1_init) (by decide +kernel)⟩ ⟨rh_blind, fun U hU hW => ⟨rfl, by rw [hU], by rw [hU]; exact hPc, va_K.moved hW.alike hK, hDc.weaken (fun _ _ _ _ => trivial), rn.warm hW X.2.2.2.2.2.2.1⟩⟩ rfl rfl hl.1 rfl (lv_room (Nat.le_of_ble_eq_true rfl)) dX2_init_84 ⟨Nat.le_of_ble_eq_true rfl, Nat.le_of_ble_eq_true rfl⟩) h.2.2 (fun q _ h => hFc q h) hFc (fun u t H1 locs ht hvm hw hB hz1 hk1 hS => ?_)
  obtain ⟨b0, b1, b2⟩ := u
  obtain ⟨hP1, hK1, hD1⟩ := hB
  rw [ht] at hP1
  have h9 := va_join (wr := [(x, .inr (2, [.int (ck_n p1), .int (ck_q p2), .ref q0, .ref q1, .ref q2, .null, .null, .int 0, .int 0, .int 0, .int 0, .int 0, .int 0, .int 0, .int 0])), (q0, .inl (cyZ, 16, .inl (fun _ => 0))), (q1, .inl (cyI, 16, .inl (fun _ => 0))), (q2, .inr (0, [.ref a0, .ref a1, .int 0, .int 0])), (a0, .inl (cyI, 512, .inl (fun _ => 0))), (a1, .inl (cyI, 512, .inl (fun _ => 0)))]) h.1 h.2.1 [6] [0, 1, 2, 3, 4, 5] rfl rfl (by decide) (by decide) hk1 hFc hP1 hD1
  have h : rh_W G A s H1 _ ([(x, .inr (2, [.int (ck_n p1), .int (ck_q p2), .ref q0, .ref q1, .ref q2, .null, .null, .int 0, .int 0, .int 0, .int 0, .int 0, .int 0, .int 0, .int 0])), (q0, .inl (cyZ, 16, .inl (fun _ => 0))), (q1, .inl (cyI, 16, .inl (fun _ => 0))), (q2, .inr (0, [.ref a0, .ref a1, .int 0, .int 0])), (a0, .inl (cyI, 512, .inl (fun _ => 0))), (a1, .inl (cyI, 512, .inl (fun _ => 0))), (q3, .inr (1, [.int 0, .ref b0, .ref b1, .ref b2, .int 0])), (b0, .inl (cyI, n, .inl (fun _ => 0))), (b1, .inl (cyI, n, .inl (fun _ => 0))), (b2, .inl (cyI, n, .inl (fun _ => 0)))]) := ⟨h9.1, h9.2, hS⟩
  refine rh_put X h iX2_init_X2 tyX2 tyX2_ok nmX2 0 5 rfl rfl (by decide) (by decide +kernel) rfl rfl rfl (Nat.le_of_ble_eq_true rfl) dX2_init_87 (fun H locs h => ?_)
  have h : rh_W G A s H _ ([(x, .inr (2, [.int (ck_n p1), .int (ck_q p2), .ref q0, .ref q1, .ref q2, .ref q3, .null, .int 0, .int 0, .int 0, .int 0, .int 0, .int 0, .int 0, .int 0])), (q0, .inl (cyZ, 16, .inl (fun _ => 0))), (q1, .inl (cyI, 16, .inl (fun _ => 0))), (q2, .inr (0, [.ref a0, .ref a1, .int 0, .int 0])), (a0, .inl (cyI, 512, .inl (fun _ => 0))), (a1, .inl (cyI, 512, .inl (fun _ => 0))), (q3, .inr (1, [.int 0, .ref b0, .ref b1, .ref b2, .int 0])), (b0, .inl (cyI, n, .inl (fun _ => 0))), (b1, .inl (cyI, n, .inl (fun _ => 0))), (b2, .inl (cyI, n, .inl (fun _ => 0)))]) := h
  refine lv_aload_n hx hb dX2_init_90 rfl (lv_at hl 0 rfl) ?_
  refine va_new (ci := 1) (fs := [.int 0, .null, .null, .null, .int 0]) (C := RX1) (T := TX1) (N := 5) hx hb hts iX2_init_X1 tyX1 tyX1_ok hown (hts (.classLink RX2 31 RX1) (by decide +kernel)) (hts (.instantiable RX1 5) (by decide +kernel)) (hts (.initialized RX1) (by decide +kernel)) hK h.1 h.2.1 h.2.2 X.2.2.2.2.2.2.2 rfl (fun j hj => by rcases (show j = 0 ∨ j = 1 ∨ j = 2 ∨ j = 3 ∨ j = 4 by omega) with rfl | rfl | rfl | rfl | rfl <;> rfl) (Nat.le_of_ble_eq_true rfl) (Nat.le_of_ble_eq_true rfl) dX2_init_91 (fun q4 H hP9 hD9 hS9 => ?_)
  have h : rh_W G A s H _ _ := ⟨hP9, hD9, hS9⟩
  have h : rh_W G A s H _ ([(x, .inr (2, [.int (ck_n p1), .int (ck_q p2), .ref q0, .ref q1, .ref q2, .ref q3, .null, .int 0, .int 0, .int 0, .int 0, .int 0, .int 0, .int 0, .int 0])), (q0, .inl (cyZ, 16, .inl (fun _ => 0))), (q1, .inl (cyI, 16, .inl (fun _ => 0))), (q2, .inr (0, [.ref a0, .ref a1, .int 0, .int 0])), (a0, .inl (cyI, 512, .inl (fun _ => 0))), (a1, .inl (cyI, 512, .inl (fun _ => 0))), (q3, .inr (1, [.int 0, .ref b0, .ref b1, .ref b2, .int 0])), (b0, .inl (cyI, n, .inl (fun _ => 0))), (b1, .inl (cyI, n, .inl (fun _ => 0))), (b2, .inl (cyI, n, .inl (fun _ => 0))), (q4, .inr (1, [.int 0, .null, .null, .null, .int 0]))]) := h
  refine lv_dup hx hb dX2_init_94 rfl ?_
  refine lv_iconst (v := 1) hx hb dX2_init_95 (by decide) ?_
  refine lv_aload_n hx hb dX2_init_96 rfl (lv_at hl 0 rfl) ?_
  refine rh_get X h (v := .int (ck_n p1)) iX2_init_X2 0 0 rfl rfl (by decide) (by decide +kernel) rfl dX2_init_97 ?_
  have hPc := h.1.sub (ws' := [(q4, .inr (1, [.int 0, .null, .null, .null, .int 0]))]) [10] rfl
  have hDc := h.2.1.sub (ws' := [(q4, .inr (1, [.int 0, .null, .null, .null, .int 0]))]) [10] (by decide) rfl
  have hFc := va_free (wc := [(q4, .inr (1, [.int 0, .null, .null, .null, .int 0]))]) h.2.1 h.2.2 X.2.2.2.2.2.2.2 [10] rfl
  refine va_callv (va_runIN (As := [.int 1, .int (ck_n p1)]) (rest := [.ref q4, .ref x]) ⟨hx, hb, X.2.2.1, hown, hts⟩ (kX1_init l G (x := q4) (p1 := 1) hn hn4 H.size) ⟨va_cnB (host := RX2) 2 hts ggX2_init_X1_init rfl rfl rfl (hNN _ (by decide +kernel)) (hts (.initialized RX1) (by decide +kernel)) (by decide +kernel) ⟨Nat.le_of_ble_eq_true rfl, Nat.le_of_ble_eq_true rfl⟩, rfl, hts (.instanceMethod yX1_init) (by decide +kernel)⟩ ⟨rh_blind, fun U hU hW => ⟨rfl, by rw [hU], by rw [hU]; exact hPc, va_K.moved hW.alike hK, hDc.weaken (fun _ _ _ _ => trivial), rn.warm hW X.2.2.2.2.2.2.1⟩⟩ rfl rfl hl.1 rfl (lv_room (Nat.le_of_ble_eq_true rfl)) dX2_init_100 ⟨Nat.le_of_ble_eq_true rfl, Nat.le_of_ble_eq_true rfl⟩) h.2.2 (fun q _ h => hFc q h) hFc (fun u t H1 locs ht hvm hw hB hz1 hk1 hS => ?_)
  obtain ⟨d0, d1, d2⟩ := u
  obtain ⟨hP1, hK1, hD1⟩ := hB
  rw [ht] at hP1
  have h9 := va_join (wr := [(x, .inr (2, [.int (ck_n p1), .int (ck_q p2), .ref q0, .ref q1, .ref q2, .ref q3, .null, .int 0, .int 0, .int 0, .int 0, .int 0, .int 0, .int 0, .int 0])), (q0, .inl (cyZ, 16, .inl (fun _ => 0))), (q1, .inl (cyI, 16, .inl (fun _ => 0))), (q2, .inr (0, [.ref a0, .ref a1, .int 0, .int 0])), (a0, .inl (cyI, 512, .inl (fun _ => 0))), (a1, .inl (cyI, 512, .inl (fun _ => 0))), (q3, .inr (1, [.int 0, .ref b0, .ref b1, .ref b2, .int 0])), (b0, .inl (cyI, n, .inl (fun _ => 0))), (b1, .inl (cyI, n, .inl (fun _ => 0))), (b2, .inl (cyI, n, .inl (fun _ => 0)))]) h.1 h.2.1 [10] [0, 1, 2, 3, 4, 5, 6, 7, 8, 9] rfl rfl (by decide) (by decide) hk1 hFc hP1 hD1
  have h : rh_W G A s H1 _ ([(x, .inr (2, [.int (ck_n p1), .int (ck_q p2), .ref q0, .ref q1, .ref q2, .ref q3, .null, .int 0, .int 0, .int 0, .int 0, .int 0, .int 0, .int 0, .int 0])), (q0, .inl (cyZ, 16, .inl (fun _ => 0))), (q1, .inl (cyI, 16, .inl (fun _ => 0))), (q2, .inr (0, [.ref a0, .ref a1, .int 0, .int 0])), (a0, .inl (cyI, 512, .inl (fun _ => 0))), (a1, .inl (cyI, 512, .inl (fun _ => 0))), (q3, .inr (1, [.int 0, .ref b0, .ref b1, .ref b2, .int 0])), (b0, .inl (cyI, n, .inl (fun _ => 0))), (b1, .inl (cyI, n, .inl (fun _ => 0))), (b2, .inl (cyI, n, .inl (fun _ => 0))), (q4, .inr (1, [.int 1, .ref d0, .ref d1, .ref d2, .int 0])), (d0, .inl (cyI, n, .inl (fun _ => 0))), (d1, .inl (cyI, n, .inl (fun _ => 0))), (d2, .inl (cyI, n, .inl (fun _ => 0)))]) := ⟨h9.1, h9.2, hS⟩
  refine rh_put X h iX2_init_X2 tyX2 tyX2_ok nmX2 0 6 rfl rfl (by decide) (by decide +kernel) rfl rfl rfl (Nat.le_of_ble_eq_true rfl) dX2_init_103 (fun H locs h => ?_)
  have h : rh_W G A s H _ ([(x, .inr (2, [.int (ck_n p1), .int (ck_q p2), .ref q0, .ref q1, .ref q2, .ref q3, .ref q4, .int 0, .int 0, .int 0, .int 0, .int 0, .int 0, .int 0, .int 0])), (q0, .inl (cyZ, 16, .inl (fun _ => 0))), (q1, .inl (cyI, 16, .inl (fun _ => 0))), (q2, .inr (0, [.ref a0, .ref a1, .int 0, .int 0])), (a0, .inl (cyI, 512, .inl (fun _ => 0))), (a1, .inl (cyI, 512, .inl (fun _ => 0))), (q3, .inr (1, [.int 0, .ref b0, .ref b1, .ref b2, .int 0])), (b0, .inl (cyI, n, .inl (fun _ => 0))), (b1, .inl (cyI, n, .inl (fun _ => 0))), (b2, .inl (cyI, n, .inl (fun _ => 0))), (q4, .inr (1, [.int 1, .ref d0, .ref d1, .ref d2, .int 0])), (d0, .inl (cyI, n, .inl (fun _ => 0))), (d1, .inl (cyI, n, .inl (fun _ => 0))), (d2, .inl (cyI, n, .inl (fun _ => 0)))]) := h
  have h : rh_W G A s H _ (cw cyI cyZ n x (fun k => [x, q2, q3, q4, q0, q1, a0, a1, b0, b1, b2, d0, d1, d2].getD k 0) (c_f0 p1 p2) z_g0) := ⟨h.1.sub [0, 3, 6, 10, 1, 2, 4, 5, 7, 8, 9, 11, 12, 13] rfl, h.2.1.sub [0, 3, 6, 10, 1, 2, 4, 5, 7, 8, 9, 11, 12, 13] (by decide) rfl, h.2.2⟩
  exact ret (fun k => [x, q2, q3, q4, q0, q1, a0, a1, b0, b1, b2, d0, d1, d2].getD k 0) _ _ _ _ dX2_init_106 h
