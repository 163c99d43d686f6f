/-! ===== the law: its own rows ===== -/
section RLB
variable {p : Program} {l : Launch} {e : Env} {R : Room} {s : State} {m : MethodId} {args : Array Value} {below : List Frame} {meth : Method} {c : Code} {H : Heap} {locs : List Loc} {cells slots : Nat} {Q : State → Prop}
variable {cc : ByteArray} {nL : Nat} {own : String} {Ts : List Cond} {G : va_G} {tys : List (ClassId × FieldType)} {L : List Cond} {A : Nat → Prop} {w wl wc wr wc' : va_W}
variable {y : MethodName} {bytes : ByteArray} {maxL n index pc : Nat} {ret : Option FieldType} {ws : List Cond} {rm : Room} {As rest st0 : List Value} {ls : Array Slot} {r : Int32}
/-- a call of a helper -/
theorem rj_Q {hh : List (Nat × Nat × Nat × Nat)} (S : CallFix p m c cc nL s args Ts own) (hA : ∀ q : Nat, s.heap.size ≤ q → A q) (hKc : va_K G vwCl tys s) (hN : rn L s) (hU0 : rt_U A s s.heap) (hC : va_Nc "java/lang/IllegalStateException" "java/lang/IllegalArgumentException" s) (h : rh_W G A s H locs (wl ++ (wc ++ wr))) (hM : rq_M l y ws rm G tys L wc As r wc') (cw : vx_CSW R s args own index y bytes maxL ret hh ws rm 1 6 n)
    (hn : As.length = n) (hl : ls.size = nL) (hst : st0 = As.reverse ++ rest) (hro : (rest.map fun v => v.category).sum ≤ 8) (hdg : decode cc pc = .ok (.invokestatic index, 3)) (hf : cells + 1 ≤ R.cells ∧ slots + 6 ≤ R.slots)
    (kk : ∀ (H1 : Heap) (locs1 : List Loc), rh_W G A s H1 locs1 (wl ++ (wc' ++ wr)) → W p l e R s m args below meth c H1 locs1 (cells + 1) (slots + 6) Q (F0 m (pc + 3) ls (.int r :: rest))) : W p l e R s m args below meth c H locs cells slots Q (F0 m pc ls st0) := by
  subst hst
  refine rj_back_i hA h (vx_runSW (hh := hh) S (hM H.size) cw ⟨rq_blind, fun U hU hW => ?_⟩ rfl hn hl rfl (lv_room hro) hdg hf) kk
  refine ⟨rfl, by rw [hU], by rw [hU]; exact rj_P h, va_K.moved hW.alike hKc, (rj_D h).weaken (fun _ _ _ _ => trivial), rn.warm hW hN, ?_, va_Nc.moved hW.alike hC⟩
  rw [hU]
  exact rt_U.moved hW.alike ((hU0.kept h.2.2.2.1).narrow (rj_F hA h))
theorem rk_newJ (X : rh_X p s m args c cc nL own Ts G tys L A) (h : rh_W G A s H locs w) (t0 : Nat) {cy : ClassId} (ht : tys[t0]? = some (cy, .long)) (harr : Cond.arrayClass .long ∈ Ts) {atype : ArrayType} (hat : newarray.typeOf atype = .long) {z : Int32} {N : Nat} (hz : z = nI N) (hN : N ≤ 100000) (hc : cells + 1 ≤ R.cells) (hs : slots + N ≤ R.slots) (hdg : decode cc pc = .ok (.newarray atype, 2))
    (kk : ∀ (q : Nat) (H1 : Heap), rh_W G A s H1 locs (w ++ [(q, .inl (cy, N, .inr (.inl (fun _ => 0))))]) → W p l e R s m args below meth c H1 locs (cells + 1) (slots + N) Q (F0 m (pc + 2) ls (.ref q :: rest))) : W p l e R s m args below meth c H locs cells slots Q (F0 m pc ls (.int z :: rest)) := by
  subst hz
  refine va_newa X.1 X.2.1 (by rw [hat]; exact X.2.2.2.2.1 _ harr) hat X.2.2.2.2.2.1 h.1 h.2.1 h.2.2 X.2.2.2.2.2.2.2 (a0 := (N, .inr (.inl (fun _ => 0)))) (fun cA => by rw [vp_cell_l]; rfl) (nI_pos (by omega)) (nI_clamp (by omega)) (by show N * 8 ≤ _; omega) hc hs hdg (fun q cA H1 k1 p1 d1 s1 => ?_)
  have e1 : s.vm.findClass ("[" ++ FieldType.long.toString) = some cA := (k1.2 tys.length (cA, .long) (by simp)).2
  have e2 : s.vm.findClass ("[" ++ FieldType.long.toString) = some cy := (X.2.2.2.2.2.1.2 t0 (cy, .long) ht).2
  cases Option.some.inj (e1.symm.trans e2)
  exact kk q H1 ⟨p1, d1, s1⟩
end RLB
/-- law.cell(script, k): the int at place k of the script, 0 beyond it; only for k that is not negative -/
def rl_c (L : Nat) (xs : Nat → Int32) (k : Int32) : Int32 := if nI L ≤ k then 0 else xs k.toNatClampNeg
abbrev rmL_cell : Room := { frames := 0, cells := 0, slots := 0, locals := 0 }
def rl_Pre (b L : Nat) (xs : Nat → Int32) (sz : Nat) (av : List Value) : Array Value → State → Prop := va_Pc av (fun U => U.heap.size = sz ∧ va_X b L xs U U.heap ∧ b < sz)
theorem rl_blind {b L : Nat} {xs : Nat → Int32} {sz : Nat} {av : List Value} : FrameBlind (rl_Pre b L xs sz av) := by
  intro a U g mk q
  obtain ⟨q0, q1, qX, qb⟩ := q
  exact ⟨q0, q1, va_X.moved (u := U) (U := U.calling g mk a) (Vm.Alike.refl U.vm) qX, qb⟩
set_option maxHeartbeats 4000000 in
set_option maxRecDepth 100000 in
theorem kL_cell (l : Launch) {b L : Nat} {xs : Nat → Int32} {k : Int32} (hk : ¬ k < 0) (hL : L < 2 ^ 31) : ∀ sz : Nat, Met l yL_cell wsL_cell rmL_cell (rl_Pre b L xs sz [.ref b, .int k]) (va_Qi (S := Unit) (fun r _ => r = rl_c L xs k) (fun _ _ => True) (fun q => sz ≤ q)) 0 0 (fun q => sz ≤ q) := by
  intro sz
  refine Met.ofW (cc := cL_cell) (maxL := 2) (ret := some .int) (by decide +kernel) rfl ?_
  intro p e s m args below meth c s₁ B hml hv
  obtain ⟨rfl, hsz, hX, hbs⟩ := hv
  have hx := B.exec
  have hb := B.bytes
  have hr := B.returns
  have hlocks := B.notSynchronized
  subst hsz
  have hl := lv_entry ([.ref b, .int k]) (n := 2) (Nat.le_of_ble_eq_true rfl)
  rw [lg_entry_eq]
  generalize (lg_sl ([.ref b, .int k]) ++ List.replicate (2 - (lg_sl ([.ref b, .int k])).length) Slot.unset).toArray = ls at hl ⊢
  have hl : lv_has ls 2 [(0, .ref b), (1, .int k)] := hl
  have hbA : ¬ (fun q : Nat => s.heap.size ≤ q) b := Nat.not_le.mpr hbs
  have hS : va_S (fun q : Nat => s.heap.size ≤ q) s.heap s.heap [] := va_S.rf
  refine lv_iload_n hx hb dL_cell_0 rfl (lv_at hl 1 rfl) ?_
  refine lv_aload_n hx hb dL_cell_1 rfl (lv_at hl 0 rfl) ?_
  refine va_slen hx hb hX hbs hbA hS dL_cell_2 ?_
  refine lv_icmp_ge (tgt := 12) hx hb dL_cell_3 (by decide) (fun c1 => ?_) (fun c1 => ?_)
  · refine lv_iconst (v := 0) hx hb dL_cell_12 (by decide) ?_
    exact W.iret (v := 0) hx hb hr (fun t ht hW => ⟨⟨0, (), rfl, (by show (0 : Int32) = rl_c L xs k; unfold rl_c; exact (if_pos (show nI L ≤ k from c1)).symm), trivial⟩, hS.F ht⟩) hS.2.2 dL_cell_13
  · refine lv_aload_n hx hb dL_cell_6 rfl (lv_at hl 0 rfl) ?_
    refine lv_iload_n hx hb dL_cell_7 rfl (lv_at hl 1 rfl) ?_
    have hin : vp_in k L := by
      obtain ⟨j, hj, rfl⟩ := nI_of hk
      refine vp_in_nI (Nat.not_le.mp fun q => c1 ?_) hL
      exact nI_le q hj
    refine va_sld hx hb hX hbs hbA hS hin dL_cell_8 ?_
    refine lv_goto (tgt := 13) hx hb dL_cell_9 (by decide) ?_
    exact W.iret (v := xs k.toNatClampNeg) hx hb hr (fun t ht hW => ⟨⟨xs k.toNatClampNeg, (), rfl, (by show xs k.toNatClampNeg = rl_c L xs k; unfold rl_c; exact (if_neg (show ¬ nI L ≤ k from c1)).symm), trivial⟩, hS.F ht⟩) hS.2.2 dL_cell_13
/-- a call of cell: the world stays -/
theorem rl_call {p : Program} {l : Launch} {e : Env} {R : Room} {s : State} {m : MethodId} {args : Array Value} {below : List Frame} {meth : Method} {c : Code} {H : Heap} {locs : List Loc} {cells slots : Nat} {Q : State → Prop} {cc : ByteArray} {nL : Nat} {own : String} {Ts : List Cond} {G : va_G} {A : Nat → Prop} {w : va_W} {pc index : Nat} {ls : Array Slot} {rest : List Value} {b L : Nat} {xs : Nat → Int32} {k : Int32} (S : CallFix p m c cc nL s args Ts own) (hA : ∀ q : Nat, s.heap.size ≤ q → A q) (hbA : ¬ A b) (hbs : b < s.heap.size) (hX : va_X b L xs s s.heap) (hk : ¬ k < 0) (hL : L < 2 ^ 31) (h : rh_W G A s H locs w)
    (cw : CallB R s args own index yL_cell cL_cell 2 (some .int) wsL_cell rmL_cell 0 0 2 ∧ (Cond.static yL_cell).before args s = true) (hl : ls.size = nL) (hro : (rest.map fun v => v.category).sum ≤ 8) (hdg : decode cc pc = .ok (.invokestatic index, 3)) (hf : cells + 0 ≤ R.cells ∧ slots + 0 ≤ R.slots)
    (kk : ∀ (H1 : Heap) (locs1 : List Loc), rh_W G A s H1 locs1 w → W p l e R s m args below meth c H1 locs1 cells slots Q (F0 m (pc + 3) ls (.int (rl_c L xs k) :: rest))) : W p l e R s m args below meth c H locs cells slots Q (F0 m pc ls (.int k :: .ref b :: rest)) := by
  have hle : s.heap.size ≤ H.size := h.2.2.1
  refine va_calli (va_runS (As := [.ref b, .int k]) (rest := rest) S (kL_cell l (b := b) (xs := xs) hk hL H.size) cw ⟨rl_blind, fun U hU hW => ⟨rfl, by rw [hU], ?_, by omega⟩⟩ rfl rfl hl rfl (lv_room hro) hdg hf) h.2.2 (fun q hq hq2 => absurd hq2 (by omega)) (fun q hq => hA q (by omega)) (fun r1 u t H1 locs1 ht hvm hw hB hz hk9 hS => ?_)
  · rw [hU]
    exact va_X.moved hW.alike (hX.kept (h.2.2.2.1 b hbs hbA))
  · subst hw
    have hkeep : ∀ q : Nat, q < H.size → H1[q]? = H[q]? := fun q hq => hk9 q hq (by omega)
    exact kk H1 locs1 ⟨h.1.kept (fun j q hj => hkeep _ (h.1 j q hj).lt), h.2.1, hS⟩
theorem lg_cmp_same (x : Int64) : lg_cmp x x = 0 := by
  unfold lg_cmp
  simp
/-! what the law asks of the two, call by call: REL n k f g fm gm says that they agree, n cells, k calls done -/
abbrev rl_T : Type := Nat → Nat → (Nat → Int32) → (Nat → Nat → Int32) → (Nat → Int32) → (Nat → Nat → Int32) → Prop
def pu_alloc (REL : rl_T) : Prop := ∀ (n c : Nat) (ad : Nat → Nat) (f : Nat → Int32) (g : Nat → Nat → Int32) (fm : Nat → Int32) (gm : Nat → Nat → Int32) (p1 p2 : Int32), c < 512 → REL n c f g fm gm → ∃ (k : Nat) (r : Int32) (ad' : Nat → Nat) (f' : Nat → Int32) (g' : Nat → Nat → Int32) (b : Int32) (fm' : Nat → Int32) (gm' : Nat → Nat → Int32), sX2_alloc n ad f g p1 p2 = some (k, r, ad', f', g') ∧ sX3_alloc fm gm p1 p2 = some (b, fm', gm') ∧ fm' 0 = rq_k1 k ∧ (k = 0 → (if r = 0 then (0 : Int64) else 1) = if b = 0 then 0 else 1) ∧ REL n (c + 1) f' g' fm' gm'
def pu_put (REL : rl_T) : Prop := ∀ (n c : Nat) (ad : Nat → Nat) (f : Nat → Int32) (g : Nat → Nat → Int32) (fm : Nat → Int32) (gm : Nat → Nat → Int32) (p1 p2 p3 : Int32), c < 512 → REL n c f g fm gm → ∃ (k : Nat) (ad' : Nat → Nat) (f' : Nat → Int32) (g' : Nat → Nat → Int32) (fm' : Nat → Int32) (gm' : Nat → Nat → Int32), sX2_put n ad f g p1 p2 p3 = some (k, ad', f', g') ∧ sX3_put fm gm p1 p2 p3 = some (fm', gm') ∧ fm' 0 = rq_k2 k ∧ REL n (c + 1) f' g' fm' gm'
def pu_putNumber (REL : rl_T) : Prop := ∀ (n c : Nat) (ad : Nat → Nat) (f : Nat → Int32) (g : Nat → Nat → Int32) (fm : Nat → Int32) (gm : Nat → Nat → Int32) (p1 p2 p3 : Int32), c < 512 → REL n c f g fm gm → ∃ (k : Nat) (ad' : Nat → Nat) (f' : Nat → Int32) (g' : Nat → Nat → Int32) (fm' : Nat → Int32) (gm' : Nat → Nat → Int32), sX2_putNumber n ad f g p1 p2 p3 = some (k, ad', f', g') ∧ sX3_putNumber fm gm p1 p2 p3 = some (fm', gm') ∧ fm' 0 = rq_k2 k ∧ REL n (c + 1) f' g' fm' gm'
def pu_get (REL : rl_T) : Prop := ∀ (n c : Nat) (ad : Nat → Nat) (f : Nat → Int32) (g : Nat → Nat → Int32) (fm : Nat → Int32) (gm : Nat → Nat → Int32) (p1 p2 p3 : Int32), c < 512 → REL n c f g fm gm → ∃ (k : Nat) (f' : Nat → Int32) (g' : Nat → Nat → Int32) (fm' : Nat → Int32) (gm' : Nat → Nat → Int32), sX2_get n ad f g p1 p2 p3 = some (k, f', g') ∧ sX3_get fm gm p1 p2 p3 = some (fm', gm') ∧ fm' 0 = rq_k2 k ∧ REL n (c + 1) f' g' fm' gm'
def pu_move (REL : rl_T) : Prop := ∀ (n c : Nat) (ad : Nat → Nat) (f : Nat → Int32) (g : Nat → Nat → Int32) (fm : Nat → Int32) (gm : Nat → Nat → Int32) (p1 p2 : Int32), c < 512 → REL n c f g fm gm → ∃ (r : Int32) (f' : Nat → Int32) (g' : Nat → Nat → Int32) (fm' : Nat → Int32) (gm' : Nat → Nat → Int32), sX2_move n ad f g p1 p2 = some (r, f', g') ∧ sX3_move fm gm p1 p2 = some (r, fm', gm') ∧ REL n (c + 1) f' g' fm' gm'
def pu_number (REL : rl_T) : Prop := ∀ (n c : Nat) (ad : Nat → Nat) (f : Nat → Int32) (g : Nat → Nat → Int32) (fm : Nat → Int32) (gm : Nat → Nat → Int32) (p1 p2 : Int32), c < 512 → REL n c f g fm gm → ∃ (r : Int32) (f' : Nat → Int32) (g' : Nat → Nat → Int32) (fm' : Nat → Int32) (gm' : Nat → Nat → Int32), sX2_number n ad f g p1 p2 = some (r, f', g') ∧ sX3_number fm gm p1 p2 = some (r, fm', gm') ∧ REL n (c + 1) f' g' fm' gm'
def pu_collect (REL : rl_T) : Prop := ∀ (n c : Nat) (ad : Nat → Nat) (f : Nat → Int32) (g : Nat → Nat → Int32) (fm : Nat → Int32) (gm : Nat → Nat → Int32) (p1 : Int32), c < 512 → REL n c f g fm gm → ∃ (k : Nat) (r : Int32) (ad' : Nat → Nat) (f' : Nat → Int32) (g' : Nat → Nat → Int32) (b : Int32) (fm' : Nat → Int32) (gm' : Nat → Nat → Int32), sX2_collect n ad f g p1 = some (k, r, ad', f', g') ∧ sX3_collect fm gm p1 = some (b, fm', gm') ∧ fm' 0 = rq_k1 k ∧ (k = 0 → r = b) ∧ REL n (c + 1) f' g' fm' gm'
def pu_look (REL : rl_T) : Prop := ∀ (n c : Nat) (ad : Nat → Nat) (f : Nat → Int32) (g : Nat → Nat → Int32) (fm : Nat → Int32) (gm : Nat → Nat → Int32) (p1 p2 : Int32), c < 512 → REL n c f g fm gm → ∃ (k : Nat) (r b : Int32) (fm' : Nat → Int32) (gm' : Nat → Nat → Int32), sX2_look n ad f g p1 p2 = some (k, r) ∧ sX3_look_ fm gm p1 p2 = some (b, fm', gm') ∧ fm' 0 = rq_k1 k ∧ (k = 0 → r = b) ∧ REL n (c + 1) f g fm' gm'
def pu_field (REL : rl_T) : Prop := ∀ (n c : Nat) (ad : Nat → Nat) (f : Nat → Int32) (g : Nat → Nat → Int32) (fm : Nat → Int32) (gm : Nat → Nat → Int32) (p1 p2 p3 : Int32), c < 512 → REL n c f g fm gm → ∃ (k : Nat) (r b : Int32) (fm' : Nat → Int32) (gm' : Nat → Nat → Int32), sX2_field n ad f g p1 p2 p3 = some (k, r) ∧ sX3_field fm gm p1 p2 p3 = some (b, fm', gm') ∧ fm' 0 = rq_k1 k ∧ (k = 0 → r = b) ∧ REL n (c + 1) f g fm' gm'
def pu_cell (REL : rl_T) : Prop := ∀ (n c : Nat) (ad : Nat → Nat) (f : Nat → Int32) (g : Nat → Nat → Int32) (fm : Nat → Int32) (gm : Nat → Nat → Int32) (p1 p2 p3 : Int32), c < 512 → REL n c f g fm gm → ∃ (k : Nat) (r b : Int32) (fm' : Nat → Int32) (gm' : Nat → Nat → Int32), sX2_cell n ad f g p1 p2 p3 = some (k, r) ∧ sX3_cell fm gm p1 p2 p3 = some (b, fm', gm') ∧ fm' 0 = rq_k1 k ∧ (k = 0 → r = b) ∧ REL n (c + 1) f g fm' gm'
def pu_entry (REL : rl_T) : Prop := ∀ (n c : Nat) (ad : Nat → Nat) (f : Nat → Int32) (g : Nat → Nat → Int32) (fm : Nat → Int32) (gm : Nat → Nat → Int32) (p1 p2 : Int32), c < 512 → REL n c f g fm gm → ∃ (k : Nat) (r b : Int32) (fm' : Nat → Int32) (gm' : Nat → Nat → Int32), sX2_entry n ad f g p1 p2 = some (k, r) ∧ sX3_entry fm gm p1 p2 = some (b, fm', gm') ∧ fm' 0 = rq_k1 k ∧ (k = 0 → r = b) ∧ REL n (c + 1) f g fm' gm'
def pu_count (REL : rl_T) : Prop := ∀ (n c : Nat) (ad : Nat → Nat) (f : Nat → Int32) (g : Nat → Nat → Int32) (fm : Nat → Int32) (gm : Nat → Nat → Int32) (p1 : Int32), c < 512 → REL n c f g fm gm → ∃ (r : Int32) (fm' : Nat → Int32) (gm' : Nat → Nat → Int32), sX2_count n ad f g p1 = some r ∧ sX3_count fm gm p1 = some (r, fm', gm') ∧ REL n (c + 1) f g fm' gm'
def pu_skip (REL : rl_T) : Prop := ∀ (n c : Nat) (f : Nat → Int32) (g : Nat → Nat → Int32) (fm : Nat → Int32) (gm : Nat → Nat → Int32), c < 512 → REL n c f g fm gm → REL n (c + 1) f g fm gm
def pu_start (REL : rl_T) : Prop := ∀ (n : Nat) (p1 p2 : Int32), 16 ≤ n → n ≤ 400 → ck_n p1 = nI n → REL n 0 (c_f0 p1 p2) z_g0 (m_f0 p1 p2) z_g0
