theorem rn_nil {s : State} : rn [] s := ⟨fun w h => absurd h List.not_mem_nil, fun w h => absurd h List.not_mem_nil⟩
/-- what a case of the law's switch owes: the next round's head -/
def rl_next (p : Program) (l : Launch) (e : Env) (s : State) (m : MethodId) (below : List Frame) (meth : Method) (c : Code) (Q : State → Prop) (b : Nat) (G : va_G) (cyI cyZ cyJ : ClassId) (n x xm o : Nat) (adm : Nat → Nat) (REL : rl_T) (k : Nat) (x4 : Int32) (cells slots : Nat) : Prop :=
  ∀ (H : Heap) (locs : List Loc) (ls : Array Slot) (ad : Nat → Nat) (f : Nat → Int32) (g : Nat → Nat → Int32) (fm : Nat → Int32) (gm : Nat → Nat → Int32) (fo : Nat → Int64), REL n k f g fm gm → rh_W G (fun q : Nat => s.heap.size ≤ q) s H locs (mw cyI cyZ xm adm fm gm ++ (cw cyI cyZ n x ad f g ++ rq_out cyJ o fo)) → lv_has ls 7 [(4, .int x4), (0, .ref b), (1, .ref x), (2, .ref xm), (3, .ref o)] → W p l e room_1 s m #[Value.ref b] below meth c H locs cells slots Q (F0 m 826 ls [])
theorem rq_k1_0 {k : Nat} (h : rq_k1 k = 0) : k = 0 := by
  unfold rq_k1 at h
  split at h
  · assumption
  · exact absurd h (by decide)
theorem rq_o_0 {k : Nat} {fo : Nat → Int64} {v : Int64} (h : k = 0) : rq_o k fo v (0 : Int32).toNatClampNeg = v := by
  unfold rq_o
  rw [if_pos h]
  rfl
set_option maxHeartbeats 4000000 in
set_option maxRecDepth 100000 in
theorem w_alloc {p : Program} {l : Launch} {e : Env} {s : State} {m : MethodId} {below : List Frame} {meth : Method} {c : Code} {Q : State → Prop} {b L : Nat} {xs : Nat → Int32} {G : va_G} {cyI cyZ cyJ : ClassId} {n x xm o : Nat} {adm : Nat → Nat} {REL : rl_T} (hlt : l.stackTraces = false) (X : rh_X p s m #[Value.ref b] c cL_law 7 RL wsL_law G [(cyI, .int), (cyZ, .boolean), (cyJ, .long)] rn_C (fun q : Nat => s.heap.size ≤ q)) (hX : va_X b L xs s s.heap) (hbl : b < s.heap.size) (hU : rt_U (fun q : Nat => s.heap.size ≤ q) s s.heap) (hC : va_Nc "java/lang/IllegalStateException" "java/lang/IllegalArgumentException" s) (hp : pu_alloc REL) {k : Nat} (hk : k < 512) {x4 : Int32} (hi1 : vp_in (x4 + 1) L) (hi2 : vp_in (x4 + 2) L) {cells slots : Nat} (hf : cells + 1 ≤ room_1.cells ∧ slots + 6 ≤ room_1.slots) (nx : rl_next p l e s m below meth c Q b G cyI cyZ cyJ n x xm o adm REL (k + 1) x4 (cells + 1) (slots + 6)) {H : Heap} {locs : List Loc} {ls : Array Slot} {ad : Nat → Nat} {f : Nat → Int32} {g : Nat → Nat → Int32} {fm : Nat → Int32} {gm : Nat → Nat → Int32} {fo : Nat → Int64} (hR : REL n k f g fm gm) (h : rh_W G (fun q : Nat => s.heap.size ≤ q) s H locs (mw cyI cyZ xm adm fm gm ++ (cw cyI cyZ n x ad f g ++ rq_out cyJ o fo))) (hl : lv_has ls 7 [(4, .int x4), (0, .ref b), (1, .ref x), (2, .ref xm), (3, .ref o)]) : W p l e room_1 s m #[Value.ref b] below meth c H locs cells slots Q (F0 m 120 ls []) := by
  have hx := X.1
  have hb := X.2.1
  have hown := X.2.2.2.1
  have hts := X.2.2.2.2.1
  have hK := X.2.2.2.2.2.1
  have hA := X.2.2.2.2.2.2.2
  have hbA : ¬ (fun q : Nat => s.heap.size ≤ q) b := Nat.not_le.mpr hbl
  have hf0 : cells + 0 ≤ room_1.cells ∧ slots + 0 ≤ room_1.slots := ⟨by omega, by omega⟩
  obtain ⟨k', r', ad', f', g', b', fm', gm', h1, h2, h3, h4, hR⟩ := hp n k ad f g fm gm (xs (x4 + 1).toNatClampNeg) (xs (x4 + 2).toNatClampNeg) hk hR
  refine lv_aload_n hx hb dL_law_120 rfl (lv_at hl 2 rfl) ?_
  refine lv_aload_n hx hb dL_law_121 rfl (lv_at hl 1 rfl) ?_
  refine lv_iload hx hb dL_law_122 (lv_at hl 0 rfl) ?_
  refine lv_iconst (v := 1) hx hb dL_law_124 (by decide) ?_
  refine lv_iadd hx hb dL_law_125 ?_
  refine va_sld hx hb hX hbl hbA h.2.2 hi1 dL_law_126 ?_
  refine lv_aload_n hx hb dL_law_127 rfl (lv_at hl 1 rfl) ?_
  refine lv_iload hx hb dL_law_128 (lv_at hl 0 rfl) ?_
  refine lv_iconst (v := 2) hx hb dL_law_130 (by decide) ?_
  refine lv_iadd hx hb dL_law_131 ?_
  refine va_sld hx hb hX hbl hbA h.2.2 hi2 dL_law_132 ?_
  refine lv_aload_n hx hb dL_law_133 rfl (lv_at hl 4 rfl) ?_
  have h : rh_W G (fun q : Nat => s.heap.size ≤ q) s H locs (mw cyI cyZ xm adm fm gm ++ ((cw cyI cyZ n x ad f g ++ rq_out cyJ o fo) ++ [])) := h
  refine rj_Q ⟨hx, hb, X.2.2.1, hown, hts⟩ hA hK X.2.2.2.2.2.2.1 hU hC h (qL_alloc l hlt G (cyI := cyI) (cyZ := cyZ) (cyJ := cyJ) (x := x) h1) (vx_cwSW 4 hts gL_law_L_alloc rfl rfl rfl (by decide +kernel) ⟨Nat.le_of_ble_eq_true rfl, Nat.le_of_ble_eq_true rfl⟩) rfl hl.1 (rest := []) rfl (Nat.le_of_ble_eq_true rfl) dL_law_134 hf (fun H locs h => ?_)
  have h : rh_W G (fun q : Nat => s.heap.size ≤ q) s H locs (mw cyI cyZ xm adm fm gm ++ (cw cyI cyZ n x ad' f' g' ++ rq_out cyJ o (rq_o k' fo (if r' = 0 then 0 else 1)))) := h
  refine lv_istore (lv' := [(5, .int (rq_k1 k')), (4, .int x4), (0, .ref b), (1, .ref x), (2, .ref xm), (3, .ref o)]) hx hb dL_law_137 hl (by decide) rfl (fun ls hl => ?_)
  refine lv_aload_n hx hb dL_law_139 rfl (lv_at hl 4 rfl) ?_
  refine lv_aload_n hx hb dL_law_140 rfl (lv_at hl 2 rfl) ?_
  refine lv_iload hx hb dL_law_141 (lv_at hl 1 rfl) ?_
  refine lv_iconst (v := 1) hx hb dL_law_143 (by decide) ?_
  refine lv_iadd hx hb dL_law_144 ?_
  refine va_sld hx hb hX hbl hbA h.2.2 hi1 dL_law_145 ?_
  refine lv_aload_n hx hb dL_law_146 rfl (lv_at hl 2 rfl) ?_
  refine lv_iload hx hb dL_law_147 (lv_at hl 1 rfl) ?_
  refine lv_iconst (v := 2) hx hb dL_law_149 (by decide) ?_
  refine lv_iadd hx hb dL_law_150 ?_
  refine va_sld hx hb hX hbl hbA h.2.2 hi2 dL_law_151 ?_
  have h : rh_W G (fun q : Nat => s.heap.size ≤ q) s H locs ([] ++ (mw cyI cyZ xm adm fm gm ++ (cw cyI cyZ n x ad' f' g' ++ rq_out cyJ o (rq_o k' fo (if r' = 0 then 0 else 1))))) := h
  refine rj_Vi ⟨hx, hb, X.2.2.1, hown, hts⟩ hA (hK.sub (tys' := [(cyI, .int), (cyZ, .boolean)]) [0, 1] rfl) rn_nil h (kX3_alloc l G (cyI := cyI) (cyZ := cyZ) (x := xm) (ad := adm) h2) (cwV 2 hts gL_law_X3_alloc rfl rfl rfl (by decide +kernel) ⟨Nat.le_of_ble_eq_true rfl, Nat.le_of_ble_eq_true rfl⟩) (va_recv hK h.1 (ci := 3) (q0 := 0) rfl rfl) rfl hl.1 (rest := []) rfl (Nat.le_of_ble_eq_true rfl) dL_law_152 hf (fun H locs h => ?_)
  have h : rh_W G (fun q : Nat => s.heap.size ≤ q) s H locs (mw cyI cyZ xm adm fm' gm' ++ (cw cyI cyZ n x ad' f' g' ++ rq_out cyJ o (rq_o k' fo (if r' = 0 then 0 else 1)))) := h
  refine lv_istore (lv' := [(6, .int b'), (5, .int (rq_k1 k')), (4, .int x4), (0, .ref b), (1, .ref x), (2, .ref xm), (3, .ref o)]) hx hb dL_law_155 hl (by decide) rfl (fun ls hl => ?_)
  refine lv_aload_n hx hb dL_law_157 rfl (lv_at hl 5 rfl) ?_
  have h : rh_W G (fun q : Nat => s.heap.size ≤ q) s H locs ([] ++ (mw cyI cyZ xm adm fm' gm' ++ (cw cyI cyZ n x ad' f' g' ++ rq_out cyJ o (rq_o k' fo (if r' = 0 then 0 else 1))))) := h
  refine rj_Vi ⟨hx, hb, X.2.2.1, hown, hts⟩ hA (hK.sub (tys' := [(cyI, .int), (cyZ, .boolean)]) [0, 1] rfl) rn_nil h (kX3_thrown l G (cyI := cyI) (cyZ := cyZ) (x := xm) (ad := adm) (show sX3_thrown fm' gm' = some (fm' 0) from rfl)) (cwV 0 hts gL_law_X3_thrown rfl rfl rfl (by decide +kernel) ⟨Nat.le_of_ble_eq_true rfl, Nat.le_of_ble_eq_true rfl⟩) (va_recv hK h.1 (ci := 3) (q0 := 0) rfl rfl) rfl hl.1 (rest := []) rfl (Nat.le_of_ble_eq_true rfl) dL_law_158 hf (fun H locs h => ?_)
  have h : rh_W G (fun q : Nat => s.heap.size ≤ q) s H locs (mw cyI cyZ xm adm fm' gm' ++ (cw cyI cyZ n x ad' f' g' ++ rq_out cyJ o (rq_o k' fo (if r' = 0 then 0 else 1)))) := h
  refine lv_iload hx hb dL_law_161 (lv_at hl 1 rfl) ?_
  refine lv_icmp_eq (tgt := 168) hx hb dL_law_163 (by decide) (fun c9 => ?_) (fun c9 => absurd h3 c9)
  refine lv_iload hx hb dL_law_168 (lv_at hl 1 rfl) ?_
  refine lv_if_ne (tgt := 192) hx hb dL_law_170 (by decide) (fun c9 => ?_) (fun c9 => ?_)
  · refine lv_goto (tgt := 826) hx hb dL_law_192 (by decide) ?_
    exact nx H locs ls ad' f' g' fm' gm' (rq_o k' fo (if r' = 0 then 0 else 1)) hR h (lv_sub hl [2, 3, 4, 5, 6] rfl)
  · have hk0 := rq_k1_0 c9
    refine lv_aload_n hx hb dL_law_173 rfl (lv_at hl 6 rfl) ?_
    refine lv_iconst (v := 0) hx hb dL_law_174 (by decide) ?_
    refine va_lald hx hb hK h.1 23 2 rfl rfl (vp_in_nI (n := 0) (N := 1) (by decide) (by decide)) dL_law_175 ?_
    refine lv_iload hx hb dL_law_176 (lv_at hl 0 rfl) ?_
    refine lv_if_eq (tgt := 185) hx hb dL_law_178 (by decide) (fun c7 => ?_) (fun c7 => ?_)
    · refine lv_lconst (v := 0) hx hb dL_law_185 (by decide) ?_
      refine W.lcmp hx hb dL_law_186 ?_
      refine lv_if_eq (tgt := 192) hx hb dL_law_187 (by decide) (fun c8 => ?_) (fun c8 => absurd (by rw [rq_o_0 hk0, h4 hk0, if_pos c7]; exact lg_cmp_same _) c8)
      · refine lv_goto (tgt := 826) hx hb dL_law_192 (by decide) ?_
        exact nx H locs ls ad' f' g' fm' gm' (rq_o k' fo (if r' = 0 then 0 else 1)) hR h (lv_sub hl [2, 3, 4, 5, 6] rfl)
    · refine lv_lconst (v := 1) hx hb dL_law_181 (by decide) ?_
      refine lv_goto (tgt := 186) hx hb dL_law_182 (by decide) ?_
      refine W.lcmp hx hb dL_law_186 ?_
      refine lv_if_eq (tgt := 192) hx hb dL_law_187 (by decide) (fun c8 => ?_) (fun c8 => absurd (by rw [rq_o_0 hk0, h4 hk0, if_neg c7]; exact lg_cmp_same _) c8)
      · refine lv_goto (tgt := 826) hx hb dL_law_192 (by decide) ?_
        exact nx H locs ls ad' f' g' fm' gm' (rq_o k' fo (if r' = 0 then 0 else 1)) hR h (lv_sub hl [2, 3, 4, 5, 6] rfl)
set_option maxHeartbeats 4000000 in
set_option maxRecDepth 100000 in
theorem w_put {p : Program} {l : Launch} {e : Env} {s : State} {m : MethodId} {below : List Frame} {meth : Method} {c : Code} {Q : State → Prop} {b L : Nat} {xs : Nat → Int32} {G : va_G} {cyI cyZ cyJ : ClassId} {n x xm o : Nat} {adm : Nat → Nat} {REL : rl_T} (hlt : l.stackTraces = false) (X : rh_X p s m #[Value.ref b] c cL_law 7 RL wsL_law G [(cyI, .int), (cyZ, .boolean), (cyJ, .long)] rn_C (fun q : Nat => s.heap.size ≤ q)) (hX : va_X b L xs s s.heap) (hbl : b < s.heap.size) (hU : rt_U (fun q : Nat => s.heap.size ≤ q) s s.heap) (hC : va_Nc "java/lang/IllegalStateException" "java/lang/IllegalArgumentException" s) (hp : pu_put REL) {k : Nat} (hk : k < 512) {x4 : Int32} (hi1 : vp_in (x4 + 1) L) (hi2 : vp_in (x4 + 2) L) (hi3 : vp_in (x4 + 3) L) {cells slots : Nat} (hf : cells + 1 ≤ room_1.cells ∧ slots + 6 ≤ room_1.slots) (nx : rl_next p l e s m below meth c Q b G cyI cyZ cyJ n x xm o adm REL (k + 1) x4 (cells + 1) (slots + 6)) {H : Heap} {locs : List Loc} {ls : Array Slot} {ad : Nat → Nat} {f : Nat → Int32} {g : Nat → Nat → Int32} {fm : Nat → Int32} {gm : Nat → Nat → Int32} {fo : Nat → Int64} (hR : REL n k f g fm gm) (h : rh_W G (fun q : Nat => s.heap.size ≤ q) s H locs (mw cyI cyZ xm adm fm gm ++ (cw cyI cyZ n x ad f g ++ rq_out cyJ o fo))) (hl : lv_has ls 7 [(4, .int x4), (0, .ref b), (1, .ref x), (2, .ref xm), (3, .ref o)]) : W p l e room_1 s m #[Value.ref b] below meth c H locs cells slots Q (F0 m 195 ls []) := by
  have hx := X.1
  have hb := X.2.1
  have hown := X.2.2.2.1
  have hts := X.2.2.2.2.1
  have hK := X.2.2.2.2.2.1
  have hA := X.2.2.2.2.2.2.2
  have hbA : ¬ (fun q : Nat => s.heap.size ≤ q) b := Nat.not_le.mpr hbl
  have hf0 : cells + 0 ≤ room_1.cells ∧ slots + 0 ≤ room_1.slots := ⟨by omega, by omega⟩
  obtain ⟨k', ad', f', g', fm', gm', h1, h2, h3, hR⟩ := hp n k ad f g fm gm (xs (x4 + 1).toNatClampNeg) (xs (x4 + 2).toNatClampNeg) (xs (x4 + 3).toNatClampNeg) hk hR
  refine lv_aload_n hx hb dL_law_195 rfl (lv_at hl 2 rfl) ?_
  refine lv_aload_n hx hb dL_law_196 rfl (lv_at hl 1 rfl) ?_
  refine lv_iload hx hb dL_law_197 (lv_at hl 0 rfl) ?_
  refine lv_iconst (v := 1) hx hb dL_law_199 (by decide) ?_
  refine lv_iadd hx hb dL_law_200 ?_
  refine va_sld hx hb hX hbl hbA h.2.2 hi1 dL_law_201 ?_
  refine lv_aload_n hx hb dL_law_202 rfl (lv_at hl 1 rfl) ?_
  refine lv_iload hx hb dL_law_203 (lv_at hl 0 rfl) ?_
  refine lv_iconst (v := 2) hx hb dL_law_205 (by decide) ?_
  refine lv_iadd hx hb dL_law_206 ?_
  refine va_sld hx hb hX hbl hbA h.2.2 hi2 dL_law_207 ?_
  refine lv_aload_n hx hb dL_law_208 rfl (lv_at hl 1 rfl) ?_
  refine lv_iload hx hb dL_law_209 (lv_at hl 0 rfl) ?_
  refine lv_iconst (v := 3) hx hb dL_law_211 (by decide) ?_
  refine lv_iadd hx hb dL_law_212 ?_
  refine va_sld hx hb hX hbl hbA h.2.2 hi3 dL_law_213 ?_
  refine rj_Q ⟨hx, hb, X.2.2.1, hown, hts⟩ hA hK X.2.2.2.2.2.2.1 hU hC h (qL_put l hlt G (cyI := cyI) (cyZ := cyZ) (cyJ := cyJ) (x := x) h1) (vx_cwSW 4 hts gL_law_L_put rfl rfl rfl (by decide +kernel) ⟨Nat.le_of_ble_eq_true rfl, Nat.le_of_ble_eq_true rfl⟩) rfl hl.1 (rest := []) rfl (Nat.le_of_ble_eq_true rfl) dL_law_214 hf (fun H locs h => ?_)
  have h : rh_W G (fun q : Nat => s.heap.size ≤ q) s H locs (mw cyI cyZ xm adm fm gm ++ (cw cyI cyZ n x ad' f' g' ++ rq_out cyJ o fo)) := h
  refine lv_istore (lv' := [(5, .int (rq_k2 k')), (4, .int x4), (0, .ref b), (1, .ref x), (2, .ref xm), (3, .ref o)]) hx hb dL_law_217 hl (by decide) rfl (fun ls hl => ?_)
  refine lv_aload_n hx hb dL_law_219 rfl (lv_at hl 4 rfl) ?_
  refine lv_aload_n hx hb dL_law_220 rfl (lv_at hl 2 rfl) ?_
  refine lv_iload hx hb dL_law_221 (lv_at hl 1 rfl) ?_
  refine lv_iconst (v := 1) hx hb dL_law_223 (by decide) ?_
  refine lv_iadd hx hb dL_law_224 ?_
  refine va_sld hx hb hX hbl hbA h.2.2 hi1 dL_law_225 ?_
  refine lv_aload_n hx hb dL_law_226 rfl (lv_at hl 2 rfl) ?_
  refine lv_iload hx hb dL_law_227 (lv_at hl 1 rfl) ?_
  refine lv_iconst (v := 2) hx hb dL_law_229 (by decide) ?_
  refine lv_iadd hx hb dL_law_230 ?_
  refine va_sld hx hb hX hbl hbA h.2.2 hi2 dL_law_231 ?_
  refine lv_aload_n hx hb dL_law_232 rfl (lv_at hl 2 rfl) ?_
  refine lv_iload hx hb dL_law_233 (lv_at hl 1 rfl) ?_
  refine lv_iconst (v := 3) hx hb dL_law_235 (by decide) ?_
  refine lv_iadd hx hb dL_law_236 ?_
  refine va_sld hx hb hX hbl hbA h.2.2 hi3 dL_law_237 ?_
  have h : rh_W G (fun q : Nat => s.heap.size ≤ q) s H locs ([] ++ (mw cyI cyZ xm adm fm gm ++ (cw cyI cyZ n x ad' f' g' ++ rq_out cyJ o fo))) := h
  refine rj_Vv ⟨hx, hb, X.2.2.1, hown, hts⟩ hA (hK.sub (tys' := [(cyI, .int), (cyZ, .boolean)]) [0, 1] rfl) rn_nil h (kX3_put l G (cyI := cyI) (cyZ := cyZ) (x := xm) (ad := adm) h2) (cwV 3 hts gL_law_X3_put rfl rfl rfl (by decide +kernel) ⟨Nat.le_of_ble_eq_true rfl, Nat.le_of_ble_eq_true rfl⟩) (va_recv hK h.1 (ci := 3) (q0 := 0) rfl rfl) rfl hl.1 (rest := []) rfl (Nat.le_of_ble_eq_true rfl) dL_law_238 hf (fun H locs h => ?_)
  have h : rh_W G (fun q : Nat => s.heap.size ≤ q) s H locs (mw cyI cyZ xm adm fm' gm' ++ (cw cyI cyZ n x ad' f' g' ++ rq_out cyJ o fo)) := h
  refine lv_aload_n hx hb dL_law_241 rfl (lv_at hl 4 rfl) ?_
  have h : rh_W G (fun q : Nat => s.heap.size ≤ q) s H locs ([] ++ (mw cyI cyZ xm adm fm' gm' ++ (cw cyI cyZ n x ad' f' g' ++ rq_out cyJ o fo))) := h
  refine rj_Vi ⟨hx, hb, X.2.2.1, hown, hts⟩ hA (hK.sub (tys' := [(cyI, .int), (cyZ, .boolean)]) [0, 1] rfl) rn_nil h (kX3_thrown l G (cyI := cyI) (cyZ := cyZ) (x := xm) (ad := adm) (show sX3_thrown fm' gm' = some (fm' 0) from rfl)) (cwV 0 hts gL_law_X3_thrown rfl rfl rfl (by decide +kernel) ⟨Nat.le_of_ble_eq_true rfl, Nat.le_of_ble_eq_true rfl⟩) (va_recv hK h.1 (ci := 3) (q0 := 0) rfl rfl) rfl hl.1 (rest := []) rfl (Nat.le_of_ble_eq_true rfl) dL_law_242 hf (fun H locs h => ?_)
  have h : rh_W G (fun q : Nat => s.heap.size ≤ q) s H locs (mw cyI cyZ xm adm fm' gm' ++ (cw cyI cyZ n x ad' f' g' ++ rq_out cyJ o fo)) := h
  refine lv_iload hx hb dL_law_245 (lv_at hl 0 rfl) ?_
  refine lv_icmp_eq (tgt := 252) hx hb dL_law_247 (by decide) (fun c9 => ?_) (fun c9 => absurd h3 c9)
  refine lv_goto (tgt := 826) hx hb dL_law_252 (by decide) ?_
  exact nx H locs ls ad' f' g' fm' gm' fo hR h (lv_sub hl [1, 2, 3, 4, 5] rfl)
set_option maxHeartbeats 4000000 in
set_option maxRecDepth 100000 in
theorem w_putNumber {p : Program} {l : Launch} {e : Env} {s : State} {m : MethodId} {below : List Frame} {meth : Method} {c : Code} {Q : State → Prop} {b L : Nat} {xs : Nat → Int32} {G : va_G} {cyI cyZ cyJ : ClassId} {n x xm o : Nat} {adm : Nat → Nat} {REL : rl_T} (hlt : l.stackTraces = false) (X : rh_X p s m #[Value.ref b] c cL_law 7 RL wsL_law G [(cyI, .int), (cyZ, .boolean), (cyJ, .long)] rn_C (fun q : Nat => s.heap.size ≤ q)) (hX : va_X b L xs s s.heap) (hbl : b < s.heap.size) (hU : rt_U (fun q : Nat => s.heap.size ≤ q) s s.heap) (hC : va_Nc "java/lang/IllegalStateException" "java/lang/IllegalArgumentException" s) (hp : pu_putNumber REL) {k : Nat} (hk : k < 512) {x4 : Int32} (hi1 : vp_in (x4 + 1) L) (hi2 : vp_in (x4 + 2) L) (hi3 : vp_in (x4 + 3) L) {cells slots : Nat} (hf : cells + 1 ≤ room_1.cells ∧ slots + 6 ≤ room_1.slots) (nx : rl_next p l e s m below meth c Q b G cyI cyZ cyJ n x xm o adm REL (k + 1) x4 (cells + 1) (slots + 6)) {H : Heap} {locs : List Loc} {ls : Array Slot} {ad : Nat → Nat} {f : Nat → Int32} {g : Nat → Nat → Int32} {fm : Nat → Int32} {gm : Nat → Nat → Int32} {fo : Nat → Int64} (hR : REL n k f g fm gm) (h : rh_W G (fun q : Nat => s.heap.size ≤ q) s H locs (mw cyI cyZ xm adm fm gm ++ (cw cyI cyZ n x ad f g ++ rq_out cyJ o fo))) (hl : lv_has ls 7 [(4, .int x4), (0, .ref b), (1, .ref x), (2, .ref xm), (3, .ref o)]) : W p l e room_1 s m #[Value.ref b] below meth c H locs cells slots Q (F0 m 255 ls []) := by
  have hx := X.1
  have hb := X.2.1
  have hown := X.2.2.2.1
  have hts := X.2.2.2.2.1
  have hK := X.2.2.2.2.2.1
  have hA := X.2.2.2.2.2.2.2
  have hbA : ¬ (fun q : Nat => s.heap.size ≤ q) b := Nat.not_le.mpr hbl
  have hf0 : cells + 0 ≤ room_1.cells ∧ slots + 0 ≤ room_1.slots := ⟨by omega, by omega⟩
  obtain ⟨k', ad', f', g', fm', gm', h1, h2, h3, hR⟩ := hp n k ad f g fm gm (xs (x4 + 1).toNatClampNeg) (xs (x4 + 2).toNatClampNeg) (xs (x4 + 3).toNatClampNeg) hk hR
  refine lv_aload_n hx hb dL_law_255 rfl (lv_at hl 2 rfl) ?_
  refine lv_aload_n hx hb dL_law_256 rfl (lv_at hl 1 rfl) ?_
  refine lv_iload hx hb dL_law_257 (lv_at hl 0 rfl) ?_
  refine lv_iconst (v := 1) hx hb dL_law_259 (by decide) ?_
  refine lv_iadd hx hb dL_law_260 ?_
  refine va_sld hx hb hX hbl hbA h.2.2 hi1 dL_law_261 ?_
  refine lv_aload_n hx hb dL_law_262 rfl (lv_at hl 1 rfl) ?_
  refine lv_iload hx hb dL_law_263 (lv_at hl 0 rfl) ?_
  refine lv_iconst (v := 2) hx hb dL_law_265 (by decide) ?_
  refine lv_iadd hx hb dL_law_266 ?_
  refine va_sld hx hb hX hbl hbA h.2.2 hi2 dL_law_267 ?_
  refine lv_aload_n hx hb dL_law_268 rfl (lv_at hl 1 rfl) ?_
  refine lv_iload hx hb dL_law_269 (lv_at hl 0 rfl) ?_
  refine lv_iconst (v := 3) hx hb dL_law_271 (by decide) ?_
  refine lv_iadd hx hb dL_law_272 ?_
  refine va_sld hx hb hX hbl hbA h.2.2 hi3 dL_law_273 ?_
  refine rj_Q ⟨hx, hb, X.2.2.1, hown, hts⟩ hA hK X.2.2.2.2.2.2.1 hU hC h (qL_putNumber l hlt G (cyI := cyI) (cyZ := cyZ) (cyJ := cyJ) (x := x) h1) (vx_cwSW 4 hts gL_law_L_putNumber rfl rfl rfl (by decide +kernel) ⟨Nat.le_of_ble_eq_true rfl, Nat.le_of_ble_eq_true rfl⟩) rfl hl.1 (rest := []) rfl (Nat.le_of_ble_eq_true rfl) dL_law_274 hf (fun H locs h => ?_)
  have h : rh_W G (fun q : Nat => s.heap.size ≤ q) s H locs (mw cyI cyZ xm adm fm gm ++ (cw cyI cyZ n x ad' f' g' ++ rq_out cyJ o fo)) := h
  refine lv_istore (lv' := [(5, .int (rq_k2 k')), (4, .int x4), (0, .ref b), (1, .ref x), (2, .ref xm), (3, .ref o)]) hx hb dL_law_277 hl (by decide) rfl (fun ls hl => ?_)
  refine lv_aload_n hx hb dL_law_279 rfl (lv_at hl 4 rfl) ?_
  refine lv_aload_n hx hb dL_law_280 rfl (lv_at hl 2 rfl) ?_
  refine lv_iload hx hb dL_law_281 (lv_at hl 1 rfl) ?_
  refine lv_iconst (v := 1) hx hb dL_law_283 (by decide) ?_
  refine lv_iadd hx hb dL_law_284 ?_
  refine va_sld hx hb hX hbl hbA h.2.2 hi1 dL_law_285 ?_
  refine lv_aload_n hx hb dL_law_286 rfl (lv_at hl 2 rfl) ?_
  refine lv_iload hx hb dL_law_287 (lv_at hl 1 rfl) ?_
  refine lv_iconst (v := 2) hx hb dL_law_289 (by decide) ?_
  refine lv_iadd hx hb dL_law_290 ?_
  refine va_sld hx hb hX hbl hbA h.2.2 hi2 dL_law_291 ?_
  refine lv_aload_n hx hb dL_law_292 rfl (lv_at hl 2 rfl) ?_
  refine lv_iload hx hb dL_law_293 (lv_at hl 1 rfl) ?_
  refine lv_iconst (v := 3) hx hb dL_law_295 (by decide) ?_
  refine lv_iadd hx hb dL_law_296 ?_
  refine va_sld hx hb hX hbl hbA h.2.2 hi3 dL_law_297 ?_
  have h : rh_W G (fun q : Nat => s.heap.size ≤ q) s H locs ([] ++ (mw cyI cyZ xm adm fm gm ++ (cw cyI cyZ n x ad' f' g' ++ rq_out cyJ o fo))) := h
  refine rj_Vv ⟨hx, hb, X.2.2.1, hown, hts⟩ hA (hK.sub (tys' := [(cyI, .int), (cyZ, .boolean)]) [0, 1] rfl) rn_nil h (kX3_putNumber l G (cyI := cyI) (cyZ := cyZ) (x := xm) (ad := adm) h2) (cwV 3 hts gL_law_X3_putNumber rfl rfl rfl (by decide +kernel) ⟨Nat.le_of_ble_eq_true rfl, Nat.le_of_ble_eq_true rfl⟩) (va_recv hK h.1 (ci := 3) (q0 := 0) rfl rfl) rfl hl.1 (rest := []) rfl (Nat.le_of_ble_eq_true rfl) dL_law_298 hf (fun H locs h => ?_)
  have h : rh_W G (fun q : Nat => s.heap.size ≤ q) s H locs (mw cyI cyZ xm adm fm' gm' ++ (cw cyI cyZ n x ad' f' g' ++ rq_out cyJ o fo)) := h
  refine lv_aload_n hx hb dL_law_301 rfl (lv_at hl 4 rfl) ?_
  have h : rh_W G (fun q : Nat => s.heap.size ≤ q) s H locs ([] ++ (mw cyI cyZ xm adm fm' gm' ++ (cw cyI cyZ n x ad' f' g' ++ rq_out cyJ o fo))) := h
  refine rj_Vi ⟨hx, hb, X.2.2.1, hown, hts⟩ hA (hK.sub (tys' := [(cyI, .int), (cyZ, .boolean)]) [0, 1] rfl) rn_nil h (kX3_thrown l G (cyI := cyI) (cyZ := cyZ) (x := xm) (ad := adm) (show sX3_thrown fm' gm' = some (fm' 0) from rfl)) (cwV 0 hts gL_law_X3_thrown rfl rfl rfl (by decide +kernel) ⟨Nat.le_of_ble_eq_true rfl, Nat.le_of_ble_eq_true rfl⟩) (va_recv hK h.1 (ci := 3) (q0 := 0) rfl rfl) rfl hl.1 (rest := []) rfl (Nat.le_of_ble_eq_true rfl) dL_law_302 hf (fun H locs h => ?_)
  have h : rh_W G (fun q : Nat => s.heap.size ≤ q) s H locs (mw cyI cyZ xm adm fm' gm' ++ (cw cyI cyZ n x ad' f' g' ++ rq_out cyJ o fo)) := h
  refine lv_iload hx hb dL_law_305 (lv_at hl 0 rfl) ?_
  refine lv_icmp_eq (tgt := 312) hx hb dL_law_307 (by decide) (fun c9 => ?_) (fun c9 => absurd h3 c9)
  refine lv_goto (tgt := 826) hx hb dL_law_312 (by decide) ?_
  exact nx H locs ls ad' f' g' fm' gm' fo hR h (lv_sub hl [1, 2, 3, 4, 5] rfl)
set_option maxHeartbeats 4000000 in
set_option maxRecDepth 100000 in
theorem w_get {p : Program} {l : Launch} {e : Env} {s : State} {m : MethodId} {below : List Frame} {meth : Method} {c : Code} {Q : State → Prop} {b L : Nat} {xs : Nat → Int32} {G : va_G} {cyI cyZ cyJ : ClassId} {n x xm o : Nat} {adm : Nat → Nat} {REL : rl_T} (hlt : l.stackTraces = false) (X : rh_X p s m #[Value.ref b] c cL_law 7 RL wsL_law G [(cyI, .int), (cyZ, .boolean), (cyJ, .long)] rn_C (fun q : Nat => s.heap.size ≤ q)) (hX : va_X b L xs s s.heap) (hbl : b < s.heap.size) (hU : rt_U (fun q : Nat => s.heap.size ≤ q) s s.heap) (hC : va_Nc "java/lang/IllegalStateException" "java/lang/IllegalArgumentException" s) (hp : pu_get REL) {k : Nat} (hk : k < 512) {x4 : Int32} (hi1 : vp_in (x4 + 1) L) (hi2 : vp_in (x4 + 2) L) (hi3 : vp_in (x4 + 3) L) {cells slots : Nat} (hf : cells + 1 ≤ room_1.cells ∧ slots + 6 ≤ room_1.slots) (nx : rl_next p l e s m below meth c Q b G cyI cyZ cyJ n x xm o adm REL (k + 1) x4 (cells + 1) (slots + 6)) {H : Heap} {locs : List Loc} {ls : Array Slot} {ad : Nat → Nat} {f : Nat → Int32} {g : Nat → Nat → Int32} {fm : Nat → Int32} {gm : Nat → Nat → Int32} {fo : Nat → Int64} (hR : REL n k f g fm gm) (h : rh_W G (fun q : Nat => s.heap.size ≤ q) s H locs (mw cyI cyZ xm adm fm gm ++ (cw cyI cyZ n x ad f g ++ rq_out cyJ o fo))) (hl : lv_has ls 7 [(4, .int x4), (0, .ref b), (1, .ref x), (2, .ref xm), (3, .ref o)]) : W p l e room_1 s m #[Value.ref b] below meth c H locs cells slots Q (F0 m 315 ls []) := by
  have hx := X.1
  have hb := X.2.1
  have hown := X.2.2.2.1
  have hts := X.2.2.2.2.1
  have hK := X.2.2.2.2.2.1
  have hA := X.2.2.2.2.2.2.2
  have hbA : ¬ (fun q : Nat => s.heap.size ≤ q) b := Nat.not_le.mpr hbl
  have hf0 : cells + 0 ≤ room_1.cells ∧ slots + 0 ≤ room_1.slots := ⟨by omega, by omega⟩
  obtain ⟨k', f', g', fm', gm', h1, h2, h3, hR⟩ := hp n k ad f g fm gm (xs (x4 + 1).toNatClampNeg) (xs (x4 + 2).toNatClampNeg) (xs (x4 + 3).toNatClampNeg) hk hR
  refine lv_aload_n hx hb dL_law_315 rfl (lv_at hl 2 rfl) ?_
  refine lv_aload_n hx hb dL_law_316 rfl (lv_at hl 1 rfl) ?_
  refine lv_iload hx hb dL_law_317 (lv_at hl 0 rfl) ?_
  refine lv_iconst (v := 1) hx hb dL_law_319 (by decide) ?_
  refine lv_iadd hx hb dL_law_320 ?_
  refine va_sld hx hb hX hbl hbA h.2.2 hi1 dL_law_321 ?_
  refine lv_aload_n hx hb dL_law_322 rfl (lv_at hl 1 rfl) ?_
  refine lv_iload hx hb dL_law_323 (lv_at hl 0 rfl) ?_
  refine lv_iconst (v := 2) hx hb dL_law_325 (by decide) ?_
  refine lv_iadd hx hb dL_law_326 ?_
  refine va_sld hx hb hX hbl hbA h.2.2 hi2 dL_law_327 ?_
  refine lv_aload_n hx hb dL_law_328 rfl (lv_at hl 1 rfl) ?_
  refine lv_iload hx hb dL_law_329 (lv_at hl 0 rfl) ?_
  refine lv_iconst (v := 3) hx hb dL_law_331 (by decide) ?_
  refine lv_iadd hx hb dL_law_332 ?_
  refine va_sld hx hb hX hbl hbA h.2.2 hi3 dL_law_333 ?_
  refine rj_Q ⟨hx, hb, X.2.2.1, hown, hts⟩ hA hK X.2.2.2.2.2.2.1 hU hC h (qL_get l hlt G (cyI := cyI) (cyZ := cyZ) (cyJ := cyJ) (x := x) h1) (vx_cwSW 4 hts gL_law_L_get rfl rfl rfl (by decide +kernel) ⟨Nat.le_of_ble_eq_true rfl, Nat.le_of_ble_eq_true rfl⟩) rfl hl.1 (rest := []) rfl (Nat.le_of_ble_eq_true rfl) dL_law_334 hf (fun H locs h => ?_)
  have h : rh_W G (fun q : Nat => s.heap.size ≤ q) s H locs (mw cyI cyZ xm adm fm gm ++ (cw cyI cyZ n x ad f' g' ++ rq_out cyJ o fo)) := h
  refine lv_istore (lv' := [(5, .int (rq_k2 k')), (4, .int x4), (0, .ref b), (1, .ref x), (2, .ref xm), (3, .ref o)]) hx hb dL_law_337 hl (by decide) rfl (fun ls hl => ?_)
  refine lv_aload_n hx hb dL_law_339 rfl (lv_at hl 4 rfl) ?_
  refine lv_aload_n hx hb dL_law_340 rfl (lv_at hl 2 rfl) ?_
  refine lv_iload hx hb dL_law_341 (lv_at hl 1 rfl) ?_
  refine lv_iconst (v := 1) hx hb dL_law_343 (by decide) ?_
  refine lv_iadd hx hb dL_law_344 ?_
  refine va_sld hx hb hX hbl hbA h.2.2 hi1 dL_law_345 ?_
  refine lv_aload_n hx hb dL_law_346 rfl (lv_at hl 2 rfl) ?_
  refine lv_iload hx hb dL_law_347 (lv_at hl 1 rfl) ?_
  refine lv_iconst (v := 2) hx hb dL_law_349 (by decide) ?_
  refine lv_iadd hx hb dL_law_350 ?_
  refine va_sld hx hb hX hbl hbA h.2.2 hi2 dL_law_351 ?_
  refine lv_aload_n hx hb dL_law_352 rfl (lv_at hl 2 rfl) ?_
  refine lv_iload hx hb dL_law_353 (lv_at hl 1 rfl) ?_
  refine lv_iconst (v := 3) hx hb dL_law_355 (by decide) ?_
  refine lv_iadd hx hb dL_law_356 ?_
  refine va_sld hx hb hX hbl hbA h.2.2 hi3 dL_law_357 ?_
  have h : rh_W G (fun q : Nat => s.heap.size ≤ q) s H locs ([] ++ (mw cyI cyZ xm adm fm gm ++ (cw cyI cyZ n x ad f' g' ++ rq_out cyJ o fo))) := h
  refine rj_Vv ⟨hx, hb, X.2.2.1, hown, hts⟩ hA (hK.sub (tys' := [(cyI, .int), (cyZ, .boolean)]) [0, 1] rfl) rn_nil h (kX3_get l G (cyI := cyI) (cyZ := cyZ) (x := xm) (ad := adm) h2) (cwV 3 hts gL_law_X3_get rfl rfl rfl (by decide +kernel) ⟨Nat.le_of_ble_eq_true rfl, Nat.le_of_ble_eq_true rfl⟩) (va_recv hK h.1 (ci := 3) (q0 := 0) rfl rfl) rfl hl.1 (rest := []) rfl (Nat.le_of_ble_eq_true rfl) dL_law_358 hf (fun H locs h => ?_)
  have h : rh_W G (fun q : Nat => s.heap.size ≤ q) s H locs (mw cyI cyZ xm adm fm' gm' ++ (cw cyI cyZ n x ad f' g' ++ rq_out cyJ o fo)) := h
  refine lv_aload_n hx hb dL_law_361 rfl (lv_at hl 4 rfl) ?_
  have h : rh_W G (fun q : Nat => s.heap.size ≤ q) s H locs ([] ++ (mw cyI cyZ xm adm fm' gm' ++ (cw cyI cyZ n x ad f' g' ++ rq_out cyJ o fo))) := h
  refine rj_Vi ⟨hx, hb, X.2.2.1, hown, hts⟩ hA (hK.sub (tys' := [(cyI, .int), (cyZ, .boolean)]) [0, 1] rfl) rn_nil h (kX3_thrown l G (cyI := cyI) (cyZ := cyZ) (x := xm) (ad := adm) (show sX3_thrown fm' gm' = some (fm' 0) from rfl)) (cwV 0 hts gL_law_X3_thrown rfl rfl rfl (by decide +kernel) ⟨Nat.le_of_ble_eq_true rfl, Nat.le_of_ble_eq_true rfl⟩) (va_recv hK h.1 (ci := 3) (q0 := 0) rfl rfl) rfl hl.1 (rest := []) rfl (Nat.le_of_ble_eq_true rfl) dL_law_362 hf (fun H locs h => ?_)
  have h : rh_W G (fun q : Nat => s.heap.size ≤ q) s H locs (mw cyI cyZ xm adm fm' gm' ++ (cw cyI cyZ n x ad f' g' ++ rq_out cyJ o fo)) := h
  refine lv_iload hx hb dL_law_365 (lv_at hl 0 rfl) ?_
  refine lv_icmp_eq (tgt := 372) hx hb dL_law_367 (by decide) (fun c9 => ?_) (fun c9 => absurd h3 c9)
  refine lv_goto (tgt := 826) hx hb dL_law_372 (by decide) ?_
  exact nx H locs ls ad f' g' fm' gm' fo hR h (lv_sub hl [1, 2, 3, 4, 5] rfl)
set_option maxHeartbeats 4000000 in
set_option maxRecDepth 100000 in
theorem w_move {p : Program} {l : Launch} {e : Env} {s : State} {m : MethodId} {below : List Frame} {meth : Method} {c : Code} {Q : State → Prop} {b L : Nat} {xs : Nat → Int32} {G : va_G} {cyI cyZ cyJ : ClassId} {n x xm o : Nat} {adm : Nat → Nat} {REL : rl_T} (hlt : l.stackTraces = false) (X : rh_X p s m #[Value.ref b] c cL_law 7 RL wsL_law G [(cyI, .int), (cyZ, .boolean), (cyJ, .long)] rn_C (fun q : Nat => s.heap.size ≤ q)) (hX : va_X b L xs s s.heap) (hbl : b < s.heap.size) (hU : rt_U (fun q : Nat => s.heap.size ≤ q) s s.heap) (hC : va_Nc "java/lang/IllegalStateException" "java/lang/IllegalArgumentException" s) (hp : pu_move REL) {k : Nat} (hk : k < 512) {x4 : Int32} (hi1 : vp_in (x4 + 1) L) (hi2 : vp_in (x4 + 2) L) {cells slots : Nat} (hf : cells + 1 ≤ room_1.cells ∧ slots + 6 ≤ room_1.slots) (nx : rl_next p l e s m below meth c Q b G cyI cyZ cyJ n x xm o adm REL (k + 1) x4 (cells + 1) (slots + 6)) {H : Heap} {locs : List Loc} {ls : Array Slot} {ad : Nat → Nat} {f : Nat → Int32} {g : Nat → Nat → Int32} {fm : Nat → Int32} {gm : Nat → Nat → Int32} {fo : Nat → Int64} (hR : REL n k f g fm gm) (h : rh_W G (fun q : Nat => s.heap.size ≤ q) s H locs (mw cyI cyZ xm adm fm gm ++ (cw cyI cyZ n x ad f g ++ rq_out cyJ o fo))) (hl : lv_has ls 7 [(4, .int x4), (0, .ref b), (1, .ref x), (2, .ref xm), (3, .ref o)]) : W p l e room_1 s m #[Value.ref b] below meth c H locs cells slots Q (F0 m 375 ls []) := by
  have hx := X.1
  have hb := X.2.1
  have hown := X.2.2.2.1
  have hts := X.2.2.2.2.1
  have hK := X.2.2.2.2.2.1
  have hA := X.2.2.2.2.2.2.2
  have hbA : ¬ (fun q : Nat => s.heap.size ≤ q) b := Nat.not_le.mpr hbl
  have hf0 : cells + 0 ≤ room_1.cells ∧ slots + 0 ≤ room_1.slots := ⟨by omega, by omega⟩
  obtain ⟨r', f', g', fm', gm', h1, h2, hR⟩ := hp n k ad f g fm gm (xs (x4 + 1).toNatClampNeg) (xs (x4 + 2).toNatClampNeg) hk hR
  refine lv_aload_n hx hb dL_law_375 rfl (lv_at hl 2 rfl) ?_
  refine lv_aload_n hx hb dL_law_376 rfl (lv_at hl 1 rfl) ?_
  refine lv_iload hx hb dL_law_377 (lv_at hl 0 rfl) ?_
  refine lv_iconst (v := 1) hx hb dL_law_379 (by decide) ?_
  refine lv_iadd hx hb dL_law_380 ?_
  refine va_sld hx hb hX hbl hbA h.2.2 hi1 dL_law_381 ?_
  refine lv_aload_n hx hb dL_law_382 rfl (lv_at hl 1 rfl) ?_
  refine lv_iload hx hb dL_law_383 (lv_at hl 0 rfl) ?_
  refine lv_iconst (v := 2) hx hb dL_law_385 (by decide) ?_
  refine lv_iadd hx hb dL_law_386 ?_
  refine va_sld hx hb hX hbl hbA h.2.2 hi2 dL_law_387 ?_
  refine rj_Vi ⟨hx, hb, X.2.2.1, hown, hts⟩ hA (hK.sub (tys' := [(cyI, .int), (cyZ, .boolean)]) [0, 1] rfl) X.2.2.2.2.2.2.1 h (kX2_move l G (cyI := cyI) (cyZ := cyZ) (x := x) h1) (cwV 2 hts gL_law_X2_move rfl rfl rfl (by decide +kernel) ⟨Nat.le_of_ble_eq_true rfl, Nat.le_of_ble_eq_true rfl⟩) (va_recv hK h.1 (ci := 2) (q0 := 9) rfl rfl) rfl hl.1 (rest := []) rfl (Nat.le_of_ble_eq_true rfl) dL_law_388 hf0 (fun H locs h => ?_)
  have h : rh_W G (fun q : Nat => s.heap.size ≤ q) s H locs (mw cyI cyZ xm adm fm gm ++ (cw cyI cyZ n x ad f' g' ++ rq_out cyJ o fo)) := h
  refine lv_aload_n hx hb dL_law_391 rfl (lv_at hl 3 rfl) ?_
  refine lv_aload_n hx hb dL_law_392 rfl (lv_at hl 1 rfl) ?_
  refine lv_iload hx hb dL_law_393 (lv_at hl 0 rfl) ?_
  refine lv_iconst (v := 1) hx hb dL_law_395 (by decide) ?_
  refine lv_iadd hx hb dL_law_396 ?_
  refine va_sld hx hb hX hbl hbA h.2.2 hi1 dL_law_397 ?_
  refine lv_aload_n hx hb dL_law_398 rfl (lv_at hl 1 rfl) ?_
  refine lv_iload hx hb dL_law_399 (lv_at hl 0 rfl) ?_
  refine lv_iconst (v := 2) hx hb dL_law_401 (by decide) ?_
  refine lv_iadd hx hb dL_law_402 ?_
  refine va_sld hx hb hX hbl hbA h.2.2 hi2 dL_law_403 ?_
  have h : rh_W G (fun q : Nat => s.heap.size ≤ q) s H locs ([] ++ (mw cyI cyZ xm adm fm gm ++ (cw cyI cyZ n x ad f' g' ++ rq_out cyJ o fo))) := h
  refine rj_Vi ⟨hx, hb, X.2.2.1, hown, hts⟩ hA (hK.sub (tys' := [(cyI, .int), (cyZ, .boolean)]) [0, 1] rfl) rn_nil h (kX3_move l G (cyI := cyI) (cyZ := cyZ) (x := xm) (ad := adm) h2) (cwV 2 hts gL_law_X3_move rfl rfl rfl (by decide +kernel) ⟨Nat.le_of_ble_eq_true rfl, Nat.le_of_ble_eq_true rfl⟩) (va_recv hK h.1 (ci := 3) (q0 := 0) rfl rfl) rfl hl.1 (rest := [.int r']) rfl (Nat.le_of_ble_eq_true rfl) dL_law_404 hf0 (fun H locs h => ?_)
  have h : rh_W G (fun q : Nat => s.heap.size ≤ q) s H locs (mw cyI cyZ xm adm fm' gm' ++ (cw cyI cyZ n x ad f' g' ++ rq_out cyJ o fo)) := h
  refine lv_icmp_eq (tgt := 826) hx hb dL_law_407 (by decide) (fun c9 => ?_) (fun c9 => absurd rfl c9)
  refine W.widen (k := cells + 1) (n := slots + 6) (Nat.le_add_right _ _) (Nat.le_add_right _ _) ?_
  exact nx H locs ls ad f' g' fm' gm' fo hR h hl
set_option maxHeartbeats 4000000 in
set_option maxRecDepth 100000 in
theorem w_number {p : Program} {l : Launch} {e : Env} {s : State} {m : MethodId} {below : List Frame} {meth : Method} {c : Code} {Q : State → Prop} {b L : Nat} {xs : Nat → Int32} {G : va_G} {cyI cyZ cyJ : ClassId} {n x xm o : Nat} {adm : Nat → Nat} {REL : rl_T} (hlt : l.stackTraces = false) (X : rh_X p s m #[Value.ref b] c cL_law 7 RL wsL_law G [(cyI, .int), (cyZ, .boolean), (cyJ, .long)] rn_C (fun q : Nat => s.heap.size ≤ q)) (hX : va_X b L xs s s.heap) (hbl : b < s.heap.size) (hU : rt_U (fun q : Nat => s.heap.size ≤ q) s s.heap) (hC : va_Nc "java/lang/IllegalStateException" "java/lang/IllegalArgumentException" s) (hp : pu_number REL) {k : Nat} (hk : k < 512) {x4 : Int32} (hi1 : vp_in (x4 + 1) L) (hi2 : vp_in (x4 + 2) L) {cells slots : Nat} (hf : cells + 1 ≤ room_1.cells ∧ slots + 6 ≤ room_1.slots) (nx : rl_next p l e s m below meth c Q b G cyI cyZ cyJ n x xm o adm REL (k + 1) x4 (cells + 1) (slots + 6)) {H : Heap} {locs : List Loc} {ls : Array Slot} {ad : Nat → Nat} {f : Nat → Int32} {g : Nat → Nat → Int32} {fm : Nat → Int32} {gm : Nat → Nat → Int32} {fo : Nat → Int64} (hR : REL n k f g fm gm) (h : rh_W G (fun q : Nat => s.heap.size ≤ q) s H locs (mw cyI cyZ xm adm fm gm ++ (cw cyI cyZ n x ad f g ++ rq_out cyJ o fo))) (hl : lv_has ls 7 [(4, .int x4), (0, .ref b), (1, .ref x), (2, .ref xm), (3, .ref o)]) : W p l e room_1 s m #[Value.ref b] below meth c H locs cells slots Q (F0 m 412 ls []) := by
  have hx := X.1
  have hb := X.2.1
  have hown := X.2.2.2.1
  have hts := X.2.2.2.2.1
  have hK := X.2.2.2.2.2.1
  have hA := X.2.2.2.2.2.2.2
  have hbA : ¬ (fun q : Nat => s.heap.size ≤ q) b := Nat.not_le.mpr hbl
  have hf0 : cells + 0 ≤ room_1.cells ∧ slots + 0 ≤ room_1.slots := ⟨by omega, by omega⟩
  obtain ⟨r', f', g', fm', gm', h1, h2, hR⟩ := hp n k ad f g fm gm (xs (x4 + 1).toNatClampNeg) (xs (x4 + 2).toNatClampNeg) hk hR
  refine lv_aload_n hx hb dL_law_412 rfl (lv_at hl 2 rfl) ?_
  refine lv_aload_n hx hb dL_law_413 rfl (lv_at hl 1 rfl) ?_
  refine lv_iload hx hb dL_law_414 (lv_at hl 0 rfl) ?_
  refine lv_iconst (v := 1) hx hb dL_law_416 (by decide) ?_
  refine lv_iadd hx hb dL_law_417 ?_
  refine va_sld hx hb hX hbl hbA h.2.2 hi1 dL_law_418 ?_
  refine lv_aload_n hx hb dL_law_419 rfl (lv_at hl 1 rfl) ?_
  refine lv_iload hx hb dL_law_420 (lv_at hl 0 rfl) ?_
  refine lv_iconst (v := 2) hx hb dL_law_422 (by decide) ?_
  refine lv_iadd hx hb dL_law_423 ?_
  refine va_sld hx hb hX hbl hbA h.2.2 hi2 dL_law_424 ?_
  refine rj_Vi ⟨hx, hb, X.2.2.1, hown, hts⟩ hA (hK.sub (tys' := [(cyI, .int), (cyZ, .boolean)]) [0, 1] rfl) X.2.2.2.2.2.2.1 h (kX2_number l G (cyI := cyI) (cyZ := cyZ) (x := x) h1) (cwV 2 hts gL_law_X2_number rfl rfl rfl (by decide +kernel) ⟨Nat.le_of_ble_eq_true rfl, Nat.le_of_ble_eq_true rfl⟩) (va_recv hK h.1 (ci := 2) (q0 := 9) rfl rfl) rfl hl.1 (rest := []) rfl (Nat.le_of_ble_eq_true rfl) dL_law_425 hf0 (fun H locs h => ?_)
  have h : rh_W G (fun q : Nat => s.heap.size ≤ q) s H locs (mw cyI cyZ xm adm fm gm ++ (cw cyI cyZ n x ad f' g' ++ rq_out cyJ o fo)) := h
  refine lv_aload_n hx hb dL_law_428 rfl (lv_at hl 3 rfl) ?_
  refine lv_aload_n hx hb dL_law_429 rfl (lv_at hl 1 rfl) ?_
  refine lv_iload hx hb dL_law_430 (lv_at hl 0 rfl) ?_
  refine lv_iconst (v := 1) hx hb dL_law_432 (by decide) ?_
  refine lv_iadd hx hb dL_law_433 ?_
  refine va_sld hx hb hX hbl hbA h.2.2 hi1 dL_law_434 ?_
  refine lv_aload_n hx hb dL_law_435 rfl (lv_at hl 1 rfl) ?_
  refine lv_iload hx hb dL_law_436 (lv_at hl 0 rfl) ?_
  refine lv_iconst (v := 2) hx hb dL_law_438 (by decide) ?_
  refine lv_iadd hx hb dL_law_439 ?_
  refine va_sld hx hb hX hbl hbA h.2.2 hi2 dL_law_440 ?_
  have h : rh_W G (fun q : Nat => s.heap.size ≤ q) s H locs ([] ++ (mw cyI cyZ xm adm fm gm ++ (cw cyI cyZ n x ad f' g' ++ rq_out cyJ o fo))) := h
  refine rj_Vi ⟨hx, hb, X.2.2.1, hown, hts⟩ hA (hK.sub (tys' := [(cyI, .int), (cyZ, .boolean)]) [0, 1] rfl) rn_nil h (kX3_number l G (cyI := cyI) (cyZ := cyZ) (x := xm) (ad := adm) h2) (cwV 2 hts gL_law_X3_number rfl rfl rfl (by decide +kernel) ⟨Nat.le_of_ble_eq_true rfl, Nat.le_of_ble_eq_true rfl⟩) (va_recv hK h.1 (ci := 3) (q0 := 0) rfl rfl) rfl hl.1 (rest := [.int r']) rfl (Nat.le_of_ble_eq_true rfl) dL_law_441 hf0 (fun H locs h => ?_)
  have h : rh_W G (fun q : Nat => s.heap.size ≤ q) s H locs (mw cyI cyZ xm adm fm' gm' ++ (cw cyI cyZ n x ad f' g' ++ rq_out cyJ o fo)) := h
  refine lv_icmp_eq (tgt := 826) hx hb dL_law_444 (by decide) (fun c9 => ?_) (fun c9 => absurd rfl c9)
  refine W.widen (k := cells + 1) (n := slots + 6) (Nat.le_add_right _ _) (Nat.le_add_right _ _) ?_
  exact nx H locs ls ad f' g' fm' gm' fo hR h hl
set_option maxHeartbeats 4000000 in
set_option maxRecDepth 100000 in
theorem w_collect {p : Program} {l : Launch} {e : Env} {s : State} {m : MethodId} {below : List Frame} {meth : Method} {c : Code} {Q : State → Prop} {b L : Nat} {xs : Nat → Int32} {G : va_G} {cyI cyZ cyJ : ClassId} {n x xm o : Nat} {adm : Nat → Nat} {REL : rl_T} (hlt : l.stackTraces = false) (X : rh_X p s m #[Value.ref b] c cL_law 7 RL wsL_law G [(cyI, .int), (cyZ, .boolean), (cyJ, .long)] rn_C (fun q : Nat => s.heap.size ≤ q)) (hX : va_X b L xs s s.heap) (hbl : b < s.heap.size) (hU : rt_U (fun q : Nat => s.heap.size ≤ q) s s.heap) (hC : va_Nc "java/lang/IllegalStateException" "java/lang/IllegalArgumentException" s) (hp : pu_collect REL) {k : Nat} (hk : k < 512) {x4 : Int32} (hi1 : vp_in (x4 + 1) L) {cells slots : Nat} (hf : cells + 1 ≤ room_1.cells ∧ slots + 6 ≤ room_1.slots) (nx : rl_next p l e s m below meth c Q b G cyI cyZ cyJ n x xm o adm REL (k + 1) x4 (cells + 1) (slots + 6)) {H : Heap} {locs : List Loc} {ls : Array Slot} {ad : Nat → Nat} {f : Nat → Int32} {g : Nat → Nat → Int32} {fm : Nat → Int32} {gm : Nat → Nat → Int32} {fo : Nat → Int64} (hR : REL n k f g fm gm) (h : rh_W G (fun q : Nat => s.heap.size ≤ q) s H locs (mw cyI cyZ xm adm fm gm ++ (cw cyI cyZ n x ad f g ++ rq_out cyJ o fo))) (hl : lv_has ls 7 [(4, .int x4), (0, .ref b), (1, .ref x), (2, .ref xm), (3, .ref o)]) : W p l e room_1 s m #[Value.ref b] below meth c H locs cells slots Q (F0 m 449 ls []) := by
  have hx := X.1
  have hb := X.2.1
  have hown := X.2.2.2.1
  have hts := X.2.2.2.2.1
  have hK := X.2.2.2.2.2.1
  have hA := X.2.2.2.2.2.2.2
  have hbA : ¬ (fun q : Nat => s.heap.size ≤ q) b := Nat.not_le.mpr hbl
  have hf0 : cells + 0 ≤ room_1.cells ∧ slots + 0 ≤ room_1.slots := ⟨by omega, by omega⟩
  obtain ⟨k', r', ad', f', g', b', fm', gm', h1, h2, h3, h4, hR⟩ := hp n k ad f g fm gm (xs (x4 + 1).toNatClampNeg) hk hR
  refine lv_aload_n hx hb dL_law_449 rfl (lv_at hl 2 rfl) ?_
  refine lv_aload_n hx hb dL_law_450 rfl (lv_at hl 1 rfl) ?_
  refine lv_iload hx hb dL_law_451 (lv_at hl 0 rfl) ?_
  refine lv_iconst (v := 1) hx hb dL_law_453 (by decide) ?_
  refine lv_iadd hx hb dL_law_454 ?_
  refine va_sld hx hb hX hbl hbA h.2.2 hi1 dL_law_455 ?_
  refine lv_aload_n hx hb dL_law_456 rfl (lv_at hl 4 rfl) ?_
  have h : rh_W G (fun q : Nat => s.heap.size ≤ q) s H locs (mw cyI cyZ xm adm fm gm ++ ((cw cyI cyZ n x ad f g ++ rq_out cyJ o fo) ++ [])) := h
  refine rj_Q ⟨hx, hb, X.2.2.1, hown, hts⟩ hA hK X.2.2.2.2.2.2.1 hU hC h (qL_collect l hlt G (cyI := cyI) (cyZ := cyZ) (cyJ := cyJ) (x := x) h1) (vx_cwSW 3 hts gL_law_L_collect rfl rfl rfl (by decide +kernel) ⟨Nat.le_of_ble_eq_true rfl, Nat.le_of_ble_eq_true rfl⟩) rfl hl.1 (rest := []) rfl (Nat.le_of_ble_eq_true rfl) dL_law_457 hf (fun H locs h => ?_)
  have h : rh_W G (fun q : Nat => s.heap.size ≤ q) s H locs (mw cyI cyZ xm adm fm gm ++ (cw cyI cyZ n x ad' f' g' ++ rq_out cyJ o (rq_o k' fo r'.toInt64))) := h
  refine lv_istore (lv' := [(5, .int (rq_k1 k')), (4, .int x4), (0, .ref b), (1, .ref x), (2, .ref xm), (3, .ref o)]) hx hb dL_law_460 hl (by decide) rfl (fun ls hl => ?_)
  refine lv_aload_n hx hb dL_law_462 rfl (lv_at hl 4 rfl) ?_
  refine lv_aload_n hx hb dL_law_463 rfl (lv_at hl 2 rfl) ?_
  refine lv_iload hx hb dL_law_464 (lv_at hl 1 rfl) ?_
  refine lv_iconst (v := 1) hx hb dL_law_466 (by decide) ?_
  refine lv_iadd hx hb dL_law_467 ?_
  refine va_sld hx hb hX hbl hbA h.2.2 hi1 dL_law_468 ?_
  have h : rh_W G (fun q : Nat => s.heap.size ≤ q) s H locs ([] ++ (mw cyI cyZ xm adm fm gm ++ (cw cyI cyZ n x ad' f' g' ++ rq_out cyJ o (rq_o k' fo r'.toInt64)))) := h
  refine rj_Vi ⟨hx, hb, X.2.2.1, hown, hts⟩ hA (hK.sub (tys' := [(cyI, .int), (cyZ, .boolean)]) [0, 1] rfl) rn_nil h (kX3_collect l G (cyI := cyI) (cyZ := cyZ) (x := xm) (ad := adm) h2) (cwV 1 hts gL_law_X3_collect rfl rfl rfl (by decide +kernel) ⟨Nat.le_of_ble_eq_true rfl, Nat.le_of_ble_eq_true rfl⟩) (va_recv hK h.1 (ci := 3) (q0 := 0) rfl rfl) rfl hl.1 (rest := []) rfl (Nat.le_of_ble_eq_true rfl) dL_law_469 hf (fun H locs h => ?_)
  have h : rh_W G (fun q : Nat => s.heap.size ≤ q) s H locs (mw cyI cyZ xm adm fm' gm' ++ (cw cyI cyZ n x ad' f' g' ++ rq_out cyJ o (rq_o k' fo r'.toInt64))) := h
  refine lv_istore (lv' := [(6, .int b'), (5, .int (rq_k1 k')), (4, .int x4), (0, .ref b), (1, .ref x), (2, .ref xm), (3, .ref o)]) hx hb dL_law_472 hl (by decide) rfl (fun ls hl => ?_)
  refine lv_aload_n hx hb dL_law_474 rfl (lv_at hl 5 rfl) ?_
  have h : rh_W G (fun q : Nat => s.heap.size ≤ q) s H locs ([] ++ (mw cyI cyZ xm adm fm' gm' ++ (cw cyI cyZ n x ad' f' g' ++ rq_out cyJ o (rq_o k' fo r'.toInt64)))) := h
  refine rj_Vi ⟨hx, hb, X.2.2.1, hown, hts⟩ hA (hK.sub (tys' := [(cyI, .int), (cyZ, .boolean)]) [0, 1] rfl) rn_nil h (kX3_thrown l G (cyI := cyI) (cyZ := cyZ) (x := xm) (ad := adm) (show sX3_thrown fm' gm' = some (fm' 0) from rfl)) (cwV 0 hts gL_law_X3_thrown rfl rfl rfl (by decide +kernel) ⟨Nat.le_of_ble_eq_true rfl, Nat.le_of_ble_eq_true rfl⟩) (va_recv hK h.1 (ci := 3) (q0 := 0) rfl rfl) rfl hl.1 (rest := []) rfl (Nat.le_of_ble_eq_true rfl) dL_law_475 hf (fun H locs h => ?_)
  have h : rh_W G (fun q : Nat => s.heap.size ≤ q) s H locs (mw cyI cyZ xm adm fm' gm' ++ (cw cyI cyZ n x ad' f' g' ++ rq_out cyJ o (rq_o k' fo r'.toInt64))) := h
  refine lv_iload hx hb dL_law_478 (lv_at hl 1 rfl) ?_
  refine lv_icmp_eq (tgt := 485) hx hb dL_law_480 (by decide) (fun c9 => ?_) (fun c9 => absurd h3 c9)
  refine lv_iload hx hb dL_law_485 (lv_at hl 1 rfl) ?_
  refine lv_if_ne (tgt := 502) hx hb dL_law_487 (by decide) (fun c9 => ?_) (fun c9 => ?_)
  · refine lv_goto (tgt := 826) hx hb dL_law_502 (by decide) ?_
    exact nx H locs ls ad' f' g' fm' gm' (rq_o k' fo r'.toInt64) hR h (lv_sub hl [2, 3, 4, 5, 6] rfl)
  · have hk0 := rq_k1_0 c9
    refine lv_aload_n hx hb dL_law_490 rfl (lv_at hl 6 rfl) ?_
    refine lv_iconst (v := 0) hx hb dL_law_491 (by decide) ?_
    refine va_lald hx hb hK h.1 23 2 rfl rfl (vp_in_nI (n := 0) (N := 1) (by decide) (by decide)) dL_law_492 ?_
    refine lv_iload hx hb dL_law_493 (lv_at hl 0 rfl) ?_
    refine lv_i2l hx hb dL_law_495 rfl ?_
    refine W.lcmp hx hb dL_law_496 ?_
    refine lv_if_eq (tgt := 502) hx hb dL_law_497 (by decide) (fun c8 => ?_) (fun c8 => absurd (by rw [rq_o_0 hk0, h4 hk0]; exact lg_cmp_same _) c8)
    · refine lv_goto (tgt := 826) hx hb dL_law_502 (by decide) ?_
      exact nx H locs ls ad' f' g' fm' gm' (rq_o k' fo r'.toInt64) hR h (lv_sub hl [2, 3, 4, 5, 6] rfl)
set_option maxHeartbeats 4000000 in
set_option maxRecDepth 100000 in
theorem w_look {p : Program} {l : Launch} {e : Env} {s : State} {m : MethodId} {below : List Frame} {meth : Method} {c : Code} {Q : State → Prop} {b L : Nat} {xs : Nat → Int32} {G : va_G} {cyI cyZ cyJ : ClassId} {n x xm o : Nat} {adm : Nat → Nat} {REL : rl_T} (hlt : l.stackTraces = false) (X : rh_X p s m #[Value.ref b] c cL_law 7 RL wsL_law G [(cyI, .int), (cyZ, .boolean), (cyJ, .long)] rn_C (fun q : Nat => s.heap.size ≤ q)) (hX : va_X b L xs s s.heap) (hbl : b < s.heap.size) (hU : rt_U (fun q : Nat => s.heap.size ≤ q) s s.heap) (hC : va_Nc "java/lang/IllegalStateException" "java/lang/IllegalArgumentException" s) (hp : pu_look REL) {k : Nat} (hk : k < 512) {x4 : Int32} (hi1 : vp_in (x4 + 1) L) (hi2 : vp_in (x4 + 2) L) {cells slots : Nat} (hf : cells + 1 ≤ room_1.cells ∧ slots + 6 ≤ room_1.slots) (nx : rl_next p l e s m below meth c Q b G cyI cyZ cyJ n x xm o adm REL (k + 1) x4 (cells + 1) (slots + 6)) {H : Heap} {locs : List Loc} {ls : Array Slot} {ad : Nat → Nat} {f : Nat → Int32} {g : Nat → Nat → Int32} {fm : Nat → Int32} {gm : Nat → Nat → Int32} {fo : Nat → Int64} (hR : REL n k f g fm gm) (h : rh_W G (fun q : Nat => s.heap.size ≤ q) s H locs (mw cyI cyZ xm adm fm gm ++ (cw cyI cyZ n x ad f g ++ rq_out cyJ o fo))) (hl : lv_has ls 7 [(4, .int x4), (0, .ref b), (1, .ref x), (2, .ref xm), (3, .ref o)]) : W p l e room_1 s m #[Value.ref b] below meth c H locs cells slots Q (F0 m 505 ls []) := by
  have hx := X.1
  have hb := X.2.1
  have hown := X.2.2.2.1
  have hts := X.2.2.2.2.1
  have hK := X.2.2.2.2.2.1
  have hA := X.2.2.2.2.2.2.2
  have hbA : ¬ (fun q : Nat => s.heap.size ≤ q) b := Nat.not_le.mpr hbl
  have hf0 : cells + 0 ≤ room_1.cells ∧ slots + 0 ≤ room_1.slots := ⟨by omega, by omega⟩
  obtain ⟨k', r', b', fm', gm', h1, h2, h3, h4, hR⟩ := hp n k ad f g fm gm (xs (x4 + 1).toNatClampNeg) (xs (x4 + 2).toNatClampNeg) hk hR
  refine lv_aload_n hx hb dL_law_505 rfl (lv_at hl 2 rfl) ?_
  refine lv_aload_n hx hb dL_law_506 rfl (lv_at hl 1 rfl) ?_
  refine lv_iload hx hb dL_law_507 (lv_at hl 0 rfl) ?_
  refine lv_iconst (v := 1) hx hb dL_law_509 (by decide) ?_
  refine lv_iadd hx hb dL_law_510 ?_
  refine va_sld hx hb hX hbl hbA h.2.2 hi1 dL_law_511 ?_
  refine lv_aload_n hx hb dL_law_512 rfl (lv_at hl 1 rfl) ?_
  refine lv_iload hx hb dL_law_513 (lv_at hl 0 rfl) ?_
  refine lv_iconst (v := 2) hx hb dL_law_515 (by decide) ?_
  refine lv_iadd hx hb dL_law_516 ?_
  refine va_sld hx hb hX hbl hbA h.2.2 hi2 dL_law_517 ?_
  refine lv_aload_n hx hb dL_law_518 rfl (lv_at hl 4 rfl) ?_
  have h : rh_W G (fun q : Nat => s.heap.size ≤ q) s H locs (mw cyI cyZ xm adm fm gm ++ ((cw cyI cyZ n x ad f g ++ rq_out cyJ o fo) ++ [])) := h
  refine rj_Q ⟨hx, hb, X.2.2.1, hown, hts⟩ hA hK X.2.2.2.2.2.2.1 hU hC h (qL_look l hlt G (cyI := cyI) (cyZ := cyZ) (cyJ := cyJ) (x := x) h1) (vx_cwSW 4 hts gL_law_L_look rfl rfl rfl (by decide +kernel) ⟨Nat.le_of_ble_eq_true rfl, Nat.le_of_ble_eq_true rfl⟩) rfl hl.1 (rest := []) rfl (Nat.le_of_ble_eq_true rfl) dL_law_519 hf (fun H locs h => ?_)
  have h : rh_W G (fun q : Nat => s.heap.size ≤ q) s H locs (mw cyI cyZ xm adm fm gm ++ (cw cyI cyZ n x ad f g ++ rq_out cyJ o (rq_o k' fo r'.toInt64))) := h
  refine lv_istore (lv' := [(5, .int (rq_k1 k')), (4, .int x4), (0, .ref b), (1, .ref x), (2, .ref xm), (3, .ref o)]) hx hb dL_law_522 hl (by decide) rfl (fun ls hl => ?_)
  refine lv_aload_n hx hb dL_law_524 rfl (lv_at hl 4 rfl) ?_
  refine lv_aload_n hx hb dL_law_525 rfl (lv_at hl 2 rfl) ?_
  refine lv_iload hx hb dL_law_526 (lv_at hl 1 rfl) ?_
  refine lv_iconst (v := 1) hx hb dL_law_528 (by decide) ?_
  refine lv_iadd hx hb dL_law_529 ?_
  refine va_sld hx hb hX hbl hbA h.2.2 hi1 dL_law_530 ?_
  refine lv_aload_n hx hb dL_law_531 rfl (lv_at hl 2 rfl) ?_
  refine lv_iload hx hb dL_law_532 (lv_at hl 1 rfl) ?_
  refine lv_iconst (v := 2) hx hb dL_law_534 (by decide) ?_
  refine lv_iadd hx hb dL_law_535 ?_
  refine va_sld hx hb hX hbl hbA h.2.2 hi2 dL_law_536 ?_
  have h : rh_W G (fun q : Nat => s.heap.size ≤ q) s H locs ([] ++ (mw cyI cyZ xm adm fm gm ++ (cw cyI cyZ n x ad f g ++ rq_out cyJ o (rq_o k' fo r'.toInt64)))) := h
  refine rj_Vi ⟨hx, hb, X.2.2.1, hown, hts⟩ hA (hK.sub (tys' := [(cyI, .int), (cyZ, .boolean)]) [0, 1] rfl) rn_nil h (kX3_look_ l G (cyI := cyI) (cyZ := cyZ) (x := xm) (ad := adm) h2) (cwV 2 hts gL_law_X3_look_ rfl rfl rfl (by decide +kernel) ⟨Nat.le_of_ble_eq_true rfl, Nat.le_of_ble_eq_true rfl⟩) (va_recv hK h.1 (ci := 3) (q0 := 0) rfl rfl) rfl hl.1 (rest := []) rfl (Nat.le_of_ble_eq_true rfl) dL_law_537 hf (fun H locs h => ?_)
  have h : rh_W G (fun q : Nat => s.heap.size ≤ q) s H locs (mw cyI cyZ xm adm fm' gm' ++ (cw cyI cyZ n x ad f g ++ rq_out cyJ o (rq_o k' fo r'.toInt64))) := h
  refine lv_istore (lv' := [(6, .int b'), (5, .int (rq_k1 k')), (4, .int x4), (0, .ref b), (1, .ref x), (2, .ref xm), (3, .ref o)]) hx hb dL_law_540 hl (by decide) rfl (fun ls hl => ?_)
  refine lv_aload_n hx hb dL_law_542 rfl (lv_at hl 5 rfl) ?_
  have h : rh_W G (fun q : Nat => s.heap.size ≤ q) s H locs ([] ++ (mw cyI cyZ xm adm fm' gm' ++ (cw cyI cyZ n x ad f g ++ rq_out cyJ o (rq_o k' fo r'.toInt64)))) := h
  refine rj_Vi ⟨hx, hb, X.2.2.1, hown, hts⟩ hA (hK.sub (tys' := [(cyI, .int), (cyZ, .boolean)]) [0, 1] rfl) rn_nil h (kX3_thrown l G (cyI := cyI) (cyZ := cyZ) (x := xm) (ad := adm) (show sX3_thrown fm' gm' = some (fm' 0) from rfl)) (cwV 0 hts gL_law_X3_thrown rfl rfl rfl (by decide +kernel) ⟨Nat.le_of_ble_eq_true rfl, Nat.le_of_ble_eq_true rfl⟩) (va_recv hK h.1 (ci := 3) (q0 := 0) rfl rfl) rfl hl.1 (rest := []) rfl (Nat.le_of_ble_eq_true rfl) dL_law_543 hf (fun H locs h => ?_)
  have h : rh_W G (fun q : Nat => s.heap.size ≤ q) s H locs (mw cyI cyZ xm adm fm' gm' ++ (cw cyI cyZ n x ad f g ++ rq_out cyJ o (rq_o k' fo r'.toInt64))) := h
  refine lv_iload hx hb dL_law_546 (lv_at hl 1 rfl) ?_
  refine lv_icmp_eq (tgt := 553) hx hb dL_law_548 (by decide) (fun c9 => ?_) (fun c9 => absurd h3 c9)
  refine lv_iload hx hb dL_law_553 (lv_at hl 1 rfl) ?_
  refine lv_if_ne (tgt := 570) hx hb dL_law_555 (by decide) (fun c9 => ?_) (fun c9 => ?_)
  · refine lv_goto (tgt := 826) hx hb dL_law_570 (by decide) ?_
    exact nx H locs ls ad f g fm' gm' (rq_o k' fo r'.toInt64) hR h (lv_sub hl [2, 3, 4, 5, 6] rfl)
  · have hk0 := rq_k1_0 c9
    refine lv_aload_n hx hb dL_law_558 rfl (lv_at hl 6 rfl) ?_
    refine lv_iconst (v := 0) hx hb dL_law_559 (by decide) ?_
    refine va_lald hx hb hK h.1 23 2 rfl rfl (vp_in_nI (n := 0) (N := 1) (by decide) (by decide)) dL_law_560 ?_
    refine lv_iload hx hb dL_law_561 (lv_at hl 0 rfl) ?_
    refine lv_i2l hx hb dL_law_563 rfl ?_
    refine W.lcmp hx hb dL_law_564 ?_
    refine lv_if_eq (tgt := 570) hx hb dL_law_565 (by decide) (fun c8 => ?_) (fun c8 => absurd (by rw [rq_o_0 hk0, h4 hk0]; exact lg_cmp_same _) c8)
    · refine lv_goto (tgt := 826) hx hb dL_law_570 (by decide) ?_
      exact nx H locs ls ad f g fm' gm' (rq_o k' fo r'.toInt64) hR h (lv_sub hl [2, 3, 4, 5, 6] rfl)
set_option maxHeartbeats 4000000 in
set_option maxRecDepth 100000 in
theorem w_field {p : Program} {l : Launch} {e : Env} {s : State} {m : MethodId} {below : List Frame} {meth : Method} {c : Code} {Q : State → Prop} {b L : Nat} {xs : Nat → Int32} {G : va_G} {cyI cyZ cyJ : ClassId} {n x xm o : Nat} {adm : Nat → Nat} {REL : rl_T} (hlt : l.stackTraces = false) (X : rh_X p s m #[Value.ref b] c cL_law 7 RL wsL_law G [(cyI, .int), (cyZ, .boolean), (cyJ, .long)] rn_C (fun q : Nat => s.heap.size ≤ q)) (hX : va_X b L xs s s.heap) (hbl : b < s.heap.size) (hU : rt_U (fun q : Nat => s.heap.size ≤ q) s s.heap) (hC : va_Nc "java/lang/IllegalStateException" "java/lang/IllegalArgumentException" s) (hp : pu_field REL) {k : Nat} (hk : k < 512) {x4 : Int32} (hi1 : vp_in (x4 + 1) L) (hi2 : vp_in (x4 + 2) L) (hi3 : vp_in (x4 + 3) L) {cells slots : Nat} (hf : cells + 1 ≤ room_1.cells ∧ slots + 6 ≤ room_1.slots) (nx : rl_next p l e s m below meth c Q b G cyI cyZ cyJ n x xm o adm REL (k + 1) x4 (cells + 1) (slots + 6)) {H : Heap} {locs : List Loc} {ls : Array Slot} {ad : Nat → Nat} {f : Nat → Int32} {g : Nat → Nat → Int32} {fm : Nat → Int32} {gm : Nat → Nat → Int32} {fo : Nat → Int64} (hR : REL n k f g fm gm) (h : rh_W G (fun q : Nat => s.heap.size ≤ q) s H locs (mw cyI cyZ xm adm fm gm ++ (cw cyI cyZ n x ad f g ++ rq_out cyJ o fo))) (hl : lv_has ls 7 [(4, .int x4), (0, .ref b), (1, .ref x), (2, .ref xm), (3, .ref o)]) : W p l e room_1 s m #[Value.ref b] below meth c H locs cells slots Q (F0 m 573 ls []) := by
  have hx := X.1
  have hb := X.2.1
  have hown := X.2.2.2.1
  have hts := X.2.2.2.2.1
  have hK := X.2.2.2.2.2.1
  have hA := X.2.2.2.2.2.2.2
  have hbA : ¬ (fun q : Nat => s.heap.size ≤ q) b := Nat.not_le.mpr hbl
  have hf0 : cells + 0 ≤ room_1.cells ∧ slots + 0 ≤ room_1.slots := ⟨by omega, by omega⟩
  obtain ⟨k', r', b', fm', gm', h1, h2, h3, h4, hR⟩ := hp n k ad f g fm gm (xs (x4 + 1).toNatClampNeg) (xs (x4 + 2).toNatClampNeg) (xs (x4 + 3).toNatClampNeg) hk hR
  refine lv_aload_n hx hb dL_law_573 rfl (lv_at hl 2 rfl) ?_
  refine lv_aload_n hx hb dL_law_574 rfl (lv_at hl 1 rfl) ?_
  refine lv_iload hx hb dL_law_575 (lv_at hl 0 rfl) ?_
  refine lv_iconst (v := 1) hx hb dL_law_577 (by decide) ?_
  refine lv_iadd hx hb dL_law_578 ?_
  refine va_sld hx hb hX hbl hbA h.2.2 hi1 dL_law_579 ?_
  refine lv_aload_n hx hb dL_law_580 rfl (lv_at hl 1 rfl) ?_
  refine lv_iload hx hb dL_law_581 (lv_at hl 0 rfl) ?_
  refine lv_iconst (v := 2) hx hb dL_law_583 (by decide) ?_
  refine lv_iadd hx hb dL_law_584 ?_
  refine va_sld hx hb hX hbl hbA h.2.2 hi2 dL_law_585 ?_
  refine lv_aload_n hx hb dL_law_586 rfl (lv_at hl 1 rfl) ?_
  refine lv_iload hx hb dL_law_587 (lv_at hl 0 rfl) ?_
  refine lv_iconst (v := 3) hx hb dL_law_589 (by decide) ?_
  refine lv_iadd hx hb dL_law_590 ?_
  refine va_sld hx hb hX hbl hbA h.2.2 hi3 dL_law_591 ?_
  refine lv_aload_n hx hb dL_law_592 rfl (lv_at hl 4 rfl) ?_
  have h : rh_W G (fun q : Nat => s.heap.size ≤ q) s H locs (mw cyI cyZ xm adm fm gm ++ ((cw cyI cyZ n x ad f g ++ rq_out cyJ o fo) ++ [])) := h
  refine rj_Q ⟨hx, hb, X.2.2.1, hown, hts⟩ hA hK X.2.2.2.2.2.2.1 hU hC h (qL_field l hlt G (cyI := cyI) (cyZ := cyZ) (cyJ := cyJ) (x := x) h1) (vx_cwSW 5 hts gL_law_L_field rfl rfl rfl (by decide +kernel) ⟨Nat.le_of_ble_eq_true rfl, Nat.le_of_ble_eq_true rfl⟩) rfl hl.1 (rest := []) rfl (Nat.le_of_ble_eq_true rfl) dL_law_593 hf (fun H locs h => ?_)
  have h : rh_W G (fun q : Nat => s.heap.size ≤ q) s H locs (mw cyI cyZ xm adm fm gm ++ (cw cyI cyZ n x ad f g ++ rq_out cyJ o (rq_o k' fo r'.toInt64))) := h
  refine lv_istore (lv' := [(5, .int (rq_k1 k')), (4, .int x4), (0, .ref b), (1, .ref x), (2, .ref xm), (3, .ref o)]) hx hb dL_law_596 hl (by decide) rfl (fun ls hl => ?_)
  refine lv_aload_n hx hb dL_law_598 rfl (lv_at hl 4 rfl) ?_
  refine lv_aload_n hx hb dL_law_599 rfl (lv_at hl 2 rfl) ?_
  refine lv_iload hx hb dL_law_600 (lv_at hl 1 rfl) ?_
  refine lv_iconst (v := 1) hx hb dL_law_602 (by decide) ?_
  refine lv_iadd hx hb dL_law_603 ?_
  refine va_sld hx hb hX hbl hbA h.2.2 hi1 dL_law_604 ?_
  refine lv_aload_n hx hb dL_law_605 rfl (lv_at hl 2 rfl) ?_
  refine lv_iload hx hb dL_law_606 (lv_at hl 1 rfl) ?_
  refine lv_iconst (v := 2) hx hb dL_law_608 (by decide) ?_
  refine lv_iadd hx hb dL_law_609 ?_
  refine va_sld hx hb hX hbl hbA h.2.2 hi2 dL_law_610 ?_
  refine lv_aload_n hx hb dL_law_611 rfl (lv_at hl 2 rfl) ?_
  refine lv_iload hx hb dL_law_612 (lv_at hl 1 rfl) ?_
  refine lv_iconst (v := 3) hx hb dL_law_614 (by decide) ?_
  refine lv_iadd hx hb dL_law_615 ?_
  refine va_sld hx hb hX hbl hbA h.2.2 hi3 dL_law_616 ?_
  have h : rh_W G (fun q : Nat => s.heap.size ≤ q) s H locs ([] ++ (mw cyI cyZ xm adm fm gm ++ (cw cyI cyZ n x ad f g ++ rq_out cyJ o (rq_o k' fo r'.toInt64)))) := h
  refine rj_Vi ⟨hx, hb, X.2.2.1, hown, hts⟩ hA (hK.sub (tys' := [(cyI, .int), (cyZ, .boolean)]) [0, 1] rfl) rn_nil h (kX3_field l G (cyI := cyI) (cyZ := cyZ) (x := xm) (ad := adm) h2) (cwV 3 hts gL_law_X3_field rfl rfl rfl (by decide +kernel) ⟨Nat.le_of_ble_eq_true rfl, Nat.le_of_ble_eq_true rfl⟩) (va_recv hK h.1 (ci := 3) (q0 := 0) rfl rfl) rfl hl.1 (rest := []) rfl (Nat.le_of_ble_eq_true rfl) dL_law_617 hf (fun H locs h => ?_)
  have h : rh_W G (fun q : Nat => s.heap.size ≤ q) s H locs (mw cyI cyZ xm adm fm' gm' ++ (cw cyI cyZ n x ad f g ++ rq_out cyJ o (rq_o k' fo r'.toInt64))) := h
  refine lv_istore (lv' := [(6, .int b'), (5, .int (rq_k1 k')), (4, .int x4), (0, .ref b), (1, .ref x), (2, .ref xm), (3, .ref o)]) hx hb dL_law_620 hl (by decide) rfl (fun ls hl => ?_)
  refine lv_aload_n hx hb dL_law_622 rfl (lv_at hl 5 rfl) ?_
  have h : rh_W G (fun q : Nat => s.heap.size ≤ q) s H locs ([] ++ (mw cyI cyZ xm adm fm' gm' ++ (cw cyI cyZ n x ad f g ++ rq_out cyJ o (rq_o k' fo r'.toInt64)))) := h
  refine rj_Vi ⟨hx, hb, X.2.2.1, hown, hts⟩ hA (hK.sub (tys' := [(cyI, .int), (cyZ, .boolean)]) [0, 1] rfl) rn_nil h (kX3_thrown l G (cyI := cyI) (cyZ := cyZ) (x := xm) (ad := adm) (show sX3_thrown fm' gm' = some (fm' 0) from rfl)) (cwV 0 hts gL_law_X3_thrown rfl rfl rfl (by decide +kernel) ⟨Nat.le_of_ble_eq_true rfl, Nat.le_of_ble_eq_true rfl⟩) (va_recv hK h.1 (ci := 3) (q0 := 0) rfl rfl) rfl hl.1 (rest := []) rfl (Nat.le_of_ble_eq_true rfl) dL_law_623 hf (fun H locs h => ?_)
  have h : rh_W G (fun q : Nat => s.heap.size ≤ q) s H locs (mw cyI cyZ xm adm fm' gm' ++ (cw cyI cyZ n x ad f g ++ rq_out cyJ o (rq_o k' fo r'.toInt64))) := h
  refine lv_iload hx hb dL_law_626 (lv_at hl 1 rfl) ?_
  refine lv_icmp_eq (tgt := 633) hx hb dL_law_628 (by decide) (fun c9 => ?_) (fun c9 => absurd h3 c9)
  refine lv_iload hx hb dL_law_633 (lv_at hl 1 rfl) ?_
  refine lv_if_ne (tgt := 650) hx hb dL_law_635 (by decide) (fun c9 => ?_) (fun c9 => ?_)
  · refine lv_goto (tgt := 826) hx hb dL_law_650 (by decide) ?_
    exact nx H locs ls ad f g fm' gm' (rq_o k' fo r'.toInt64) hR h (lv_sub hl [2, 3, 4, 5, 6] rfl)
  · have hk0 := rq_k1_0 c9
    refine lv_aload_n hx hb dL_law_638 rfl (lv_at hl 6 rfl) ?_
    refine lv_iconst (v := 0) hx hb dL_law_639 (by decide) ?_
    refine va_lald hx hb hK h.1 23 2 rfl rfl (vp_in_nI (n := 0) (N := 1) (by decide) (by decide)) dL_law_640 ?_
    refine lv_iload hx hb dL_law_641 (lv_at hl 0 rfl) ?_
    refine lv_i2l hx hb dL_law_643 rfl ?_
    refine W.lcmp hx hb dL_law_644 ?_
    refine lv_if_eq (tgt := 650) hx hb dL_law_645 (by decide) (fun c8 => ?_) (fun c8 => absurd (by rw [rq_o_0 hk0, h4 hk0]; exact lg_cmp_same _) c8)
    · refine lv_goto (tgt := 826) hx hb dL_law_650 (by decide) ?_
      exact nx H locs ls ad f g fm' gm' (rq_o k' fo r'.toInt64) hR h (lv_sub hl [2, 3, 4, 5, 6] rfl)
set_option maxHeartbeats 4000000 in
set_option maxRecDepth 100000 in
theorem w_cell {p : Program} {l : Launch} {e : Env} {s : State} {m : MethodId} {below : List Frame} {meth : Method} {c : Code} {Q : State → Prop} {b L : Nat} {xs : Nat → Int32} {G : va_G} {cyI cyZ cyJ : ClassId} {n x xm o : Nat} {adm : Nat → Nat} {REL : rl_T} (hlt : l.stackTraces = false) (X : rh_X p s m #[Value.ref b] c cL_law 7 RL wsL_law G [(cyI, .int), (cyZ, .boolean), (cyJ, .long)] rn_C (fun q : Nat => s.heap.size ≤ q)) (hX : va_X b L xs s s.heap) (hbl : b < s.heap.size) (hU : rt_U (fun q : Nat => s.heap.size ≤ q) s s.heap) (hC : va_Nc "java/lang/IllegalStateException" "java/lang/IllegalArgumentException" s) (hp : pu_cell REL) {k : Nat} (hk : k < 512) {x4 : Int32} (hi1 : vp_in (x4 + 1) L) (hi2 : vp_in (x4 + 2) L) (hi3 : vp_in (x4 + 3) L) {cells slots : Nat} (hf : cells + 1 ≤ room_1.cells ∧ slots + 6 ≤ room_1.slots) (nx : rl_next p l e s m below meth c Q b G cyI cyZ cyJ n x xm o adm REL (k + 1) x4 (cells + 1) (slots + 6)) {H : Heap} {locs : List Loc} {ls : Array Slot} {ad : Nat → Nat} {f : Nat → Int32} {g : Nat → Nat → Int32} {fm : Nat → Int32} {gm : Nat → Nat → Int32} {fo : Nat → Int64} (hR : REL n k f g fm gm) (h : rh_W G (fun q : Nat => s.heap.size ≤ q) s H locs (mw cyI cyZ xm adm fm gm ++ (cw cyI cyZ n x ad f g ++ rq_out cyJ o fo))) (hl : lv_has ls 7 [(4, .int x4), (0, .ref b), (1, .ref x), (2, .ref xm), (3, .ref o)]) : W p l e room_1 s m #[Value.ref b] below meth c H locs cells slots Q (F0 m 653 ls []) := by
  have hx := X.1
  have hb := X.2.1
  have hown := X.2.2.2.1
  have hts := X.2.2.2.2.1
  have hK := X.2.2.2.2.2.1
  have hA := X.2.2.2.2.2.2.2
  have hbA : ¬ (fun q : Nat => s.heap.size ≤ q) b := Nat.not_le.mpr hbl
  have hf0 : cells + 0 ≤ room_1.cells ∧ slots + 0 ≤ room_1.slots := ⟨by omega, by omega⟩
  obtain ⟨k', r', b', fm', gm', h1, h2, h3, h4, hR⟩ := hp n k ad f g fm gm (xs (x4 + 1).toNatClampNeg) (xs (x4 + 2).toNatClampNeg) (xs (x4 + 3).toNatClampNeg) hk hR
  refine lv_aload_n hx hb dL_law_653 rfl (lv_at hl 2 rfl) ?_
  refine lv_aload_n hx hb dL_law_654 rfl (lv_at hl 1 rfl) ?_
  refine lv_iload hx hb dL_law_655 (lv_at hl 0 rfl) ?_
  refine lv_iconst (v := 1) hx hb dL_law_657 (by decide) ?_
  refine lv_iadd hx hb dL_law_658 ?_
  refine va_sld hx hb hX hbl hbA h.2.2 hi1 dL_law_659 ?_
  refine lv_aload_n hx hb dL_law_660 rfl (lv_at hl 1 rfl) ?_
  refine lv_iload hx hb dL_law_661 (lv_at hl 0 rfl) ?_
  refine lv_iconst (v := 2) hx hb dL_law_663 (by decide) ?_
  refine lv_iadd hx hb dL_law_664 ?_
  refine va_sld hx hb hX hbl hbA h.2.2 hi2 dL_law_665 ?_
  refine lv_aload_n hx hb dL_law_666 rfl (lv_at hl 1 rfl) ?_
  refine lv_iload hx hb dL_law_667 (lv_at hl 0 rfl) ?_
  refine lv_iconst (v := 3) hx hb dL_law_669 (by decide) ?_
  refine lv_iadd hx hb dL_law_670 ?_
  refine va_sld hx hb hX hbl hbA h.2.2 hi3 dL_law_671 ?_
  refine lv_aload_n hx hb dL_law_672 rfl (lv_at hl 4 rfl) ?_
  have h : rh_W G (fun q : Nat => s.heap.size ≤ q) s H locs (mw cyI cyZ xm adm fm gm ++ ((cw cyI cyZ n x ad f g ++ rq_out cyJ o fo) ++ [])) := h
  refine rj_Q ⟨hx, hb, X.2.2.1, hown, hts⟩ hA hK X.2.2.2.2.2.2.1 hU hC h (qL_cell_ l hlt G (cyI := cyI) (cyZ := cyZ) (cyJ := cyJ) (x := x) h1) (vx_cwSW 5 hts gL_law_L_cell_ rfl rfl rfl (by decide +kernel) ⟨Nat.le_of_ble_eq_true rfl, Nat.le_of_ble_eq_true rfl⟩) rfl hl.1 (rest := []) rfl (Nat.le_of_ble_eq_true rfl) dL_law_673 hf (fun H locs h => ?_)
  have h : rh_W G (fun q : Nat => s.heap.size ≤ q) s H locs (mw cyI cyZ xm adm fm gm ++ (cw cyI cyZ n x ad f g ++ rq_out cyJ o (rq_o k' fo r'.toInt64))) := h
  refine lv_istore (lv' := [(5, .int (rq_k1 k')), (4, .int x4), (0, .ref b), (1, .ref x), (2, .ref xm), (3, .ref o)]) hx hb dL_law_676 hl (by decide) rfl (fun ls hl => ?_)
  refine lv_aload_n hx hb dL_law_678 rfl (lv_at hl 4 rfl) ?_
  refine lv_aload_n hx hb dL_law_679 rfl (lv_at hl 2 rfl) ?_
  refine lv_iload hx hb dL_law_680 (lv_at hl 1 rfl) ?_
  refine lv_iconst (v := 1) hx hb dL_law_682 (by decide) ?_
  refine lv_iadd hx hb dL_law_683 ?_
  refine va_sld hx hb hX hbl hbA h.2.2 hi1 dL_law_684 ?_
  refine lv_aload_n hx hb dL_law_685 rfl (lv_at hl 2 rfl) ?_
  refine lv_iload hx hb dL_law_686 (lv_at hl 1 rfl) ?_
  refine lv_iconst (v := 2) hx hb dL_law_688 (by decide) ?_
  refine lv_iadd hx hb dL_law_689 ?_
  refine va_sld hx hb hX hbl hbA h.2.2 hi2 dL_law_690 ?_
  refine lv_aload_n hx hb dL_law_691 rfl (lv_at hl 2 rfl) ?_
  refine lv_iload hx hb dL_law_692 (lv_at hl 1 rfl) ?_
  refine lv_iconst (v := 3) hx hb dL_law_694 (by decide) ?_
  refine lv_iadd hx hb dL_law_695 ?_
  refine va_sld hx hb hX hbl hbA h.2.2 hi3 dL_law_696 ?_
  have h : rh_W G (fun q : Nat => s.heap.size ≤ q) s H locs ([] ++ (mw cyI cyZ xm adm fm gm ++ (cw cyI cyZ n x ad f g ++ rq_out cyJ o (rq_o k' fo r'.toInt64)))) := h
  refine rj_Vi ⟨hx, hb, X.2.2.1, hown, hts⟩ hA (hK.sub (tys' := [(cyI, .int), (cyZ, .boolean)]) [0, 1] rfl) rn_nil h (kX3_cell l G (cyI := cyI) (cyZ := cyZ) (x := xm) (ad := adm) h2) (cwV 3 hts gL_law_X3_cell rfl rfl rfl (by decide +kernel) ⟨Nat.le_of_ble_eq_true rfl, Nat.le_of_ble_eq_true rfl⟩) (va_recv hK h.1 (ci := 3) (q0 := 0) rfl rfl) rfl hl.1 (rest := []) rfl (Nat.le_of_ble_eq_true rfl) dL_law_697 hf (fun H locs h => ?_)
  have h : rh_W G (fun q : Nat => s.heap.size ≤ q) s H locs (mw cyI cyZ xm adm fm' gm' ++ (cw cyI cyZ n x ad f g ++ rq_out cyJ o (rq_o k' fo r'.toInt64))) := h
  refine lv_istore (lv' := [(6, .int b'), (5, .int (rq_k1 k')), (4, .int x4), (0, .ref b), (1, .ref x), (2, .ref xm), (3, .ref o)]) hx hb dL_law_700 hl (by decide) rfl (fun ls hl => ?_)
  refine lv_aload_n hx hb dL_law_702 rfl (lv_at hl 5 rfl) ?_
  have h : rh_W G (fun q : Nat => s.heap.size ≤ q) s H locs ([] ++ (mw cyI cyZ xm adm fm' gm' ++ (cw cyI cyZ n x ad f g ++ rq_out cyJ o (rq_o k' fo r'.toInt64)))) := h
  refine rj_Vi ⟨hx, hb, X.2.2.1, hown, hts⟩ hA (hK.sub (tys' := [(cyI, .int), (cyZ, .boolean)]) [0, 1] rfl) rn_nil h (kX3_thrown l G (cyI := cyI) (cyZ := cyZ) (x := xm) (ad := adm) (show sX3_thrown fm' gm' = some (fm' 0) from rfl)) (cwV 0 hts gL_law_X3_thrown rfl rfl rfl (by decide +kernel) ⟨Nat.le_of_ble_eq_true rfl, Nat.le_of_ble_eq_true rfl⟩) (va_recv hK h.1 (ci := 3) (q0 := 0) rfl rfl) rfl hl.1 (rest := []) rfl (Nat.le_of_ble_eq_true rfl) dL_law_703 hf (fun H locs h => ?_)
  have h : rh_W G (fun q : Nat => s.heap.size ≤ q) s H locs (mw cyI cyZ xm adm fm' gm' ++ (cw cyI cyZ n x ad f g ++ rq_out cyJ o (rq_o k' fo r'.toInt64))) := h
  refine lv_iload hx hb dL_law_706 (lv_at hl 1 rfl) ?_
  refine lv_icmp_eq (tgt := 713) hx hb dL_law_708 (by decide) (fun c9 => ?_) (fun c9 => absurd h3 c9)
  refine lv_iload hx hb dL_law_713 (lv_at hl 1 rfl) ?_
  refine lv_if_ne (tgt := 730) hx hb dL_law_715 (by decide) (fun c9 => ?_) (fun c9 => ?_)
  · refine lv_goto (tgt := 826) hx hb dL_law_730 (by decide) ?_
    exact nx H locs ls ad f g fm' gm' (rq_o k' fo r'.toInt64) hR h (lv_sub hl [2, 3, 4, 5, 6] rfl)
  · have hk0 := rq_k1_0 c9
    refine lv_aload_n hx hb dL_law_718 rfl (lv_at hl 6 rfl) ?_
    refine lv_iconst (v := 0) hx hb dL_law_719 (by decide) ?_
    refine va_lald hx hb hK h.1 23 2 rfl rfl (vp_in_nI (n := 0) (N := 1) (by decide) (by decide)) dL_law_720 ?_
    refine lv_iload hx hb dL_law_721 (lv_at hl 0 rfl) ?_
    refine lv_i2l hx hb dL_law_723 rfl ?_
    refine W.lcmp hx hb dL_law_724 ?_
    refine lv_if_eq (tgt := 730) hx hb dL_law_725 (by decide) (fun c8 => ?_) (fun c8 => absurd (by rw [rq_o_0 hk0, h4 hk0]; exact lg_cmp_same _) c8)
    · refine lv_goto (tgt := 826) hx hb dL_law_730 (by decide) ?_
      exact nx H locs ls ad f g fm' gm' (rq_o k' fo r'.toInt64) hR h (lv_sub hl [2, 3, 4, 5, 6] rfl)
set_option maxHeartbeats 4000000 in
set_option maxRecDepth 100000 in
theorem w_entry {p : Program} {l : Launch} {e : Env} {s : State} {m : MethodId} {below : List Frame} {meth : Method} {c : Code} {Q : State → Prop} {b L : Nat} {xs : Nat → Int32} {G : va_G} {cyI cyZ cyJ : ClassId} {n x xm o : Nat} {adm : Nat → Nat} {REL : rl_T} (hlt : l.stackTraces = false) (X : rh_X p s m #[Value.ref b] c cL_law 7 RL wsL_law G [(cyI, .int), (cyZ, .boolean), (cyJ, .long)] rn_C (fun q : Nat => s.heap.size ≤ q)) (hX : va_X b L xs s s.heap) (hbl : b < s.heap.size) (hU : rt_U (fun q : Nat => s.heap.size ≤ q) s s.heap) (hC : va_Nc "java/lang/IllegalStateException" "java/lang/IllegalArgumentException" s) (hp : pu_entry REL) {k : Nat} (hk : k < 512) {x4 : Int32} (hi1 : vp_in (x4 + 1) L) (hi2 : vp_in (x4 + 2) L) {cells slots : Nat} (hf : cells + 1 ≤ room_1.cells ∧ slots + 6 ≤ room_1.slots) (nx : rl_next p l e s m below meth c Q b G cyI cyZ cyJ n x xm o adm REL (k + 1) x4 (cells + 1) (slots + 6)) {H : Heap} {locs : List Loc} {ls : Array Slot} {ad : Nat → Nat} {f : Nat → Int32} {g : Nat → Nat → Int32} {fm : Nat → Int32} {gm : Nat → Nat → Int32} {fo : Nat → Int64} (hR : REL n k f g fm gm) (h : rh_W G (fun q : Nat => s.heap.size ≤ q) s H locs (mw cyI cyZ xm adm fm gm ++ (cw cyI cyZ n x ad f g ++ rq_out cyJ o fo))) (hl : lv_has ls 7 [(4, .int x4), (0, .ref b), (1, .ref x), (2, .ref xm), (3, .ref o)]) : W p l e room_1 s m #[Value.ref b] below meth c H locs cells slots Q (F0 m 733 ls []) := by
  have hx := X.1
  have hb := X.2.1
  have hown := X.2.2.2.1
  have hts := X.2.2.2.2.1
  have hK := X.2.2.2.2.2.1
  have hA := X.2.2.2.2.2.2.2
  have hbA : ¬ (fun q : Nat => s.heap.size ≤ q) b := Nat.not_le.mpr hbl
  have hf0 : cells + 0 ≤ room_1.cells ∧ slots + 0 ≤ room_1.slots := ⟨by omega, by omega⟩
  obtain ⟨k', r', b', fm', gm', h1, h2, h3, h4, hR⟩ := hp n k ad f g fm gm (xs (x4 + 1).toNatClampNeg) (xs (x4 + 2).toNatClampNeg) hk hR
  refine lv_aload_n hx hb dL_law_733 rfl (lv_at hl 2 rfl) ?_
  refine lv_aload_n hx hb dL_law_734 rfl (lv_at hl 1 rfl) ?_
  refine lv_iload hx hb dL_law_735 (lv_at hl 0 rfl) ?_
  refine lv_iconst (v := 1) hx hb dL_law_737 (by decide) ?_
  refine lv_iadd hx hb dL_law_738 ?_
  refine va_sld hx hb hX hbl hbA h.2.2 hi1 dL_law_739 ?_
  refine lv_aload_n hx hb dL_law_740 rfl (lv_at hl 1 rfl) ?_
  refine lv_iload hx hb dL_law_741 (lv_at hl 0 rfl) ?_
  refine lv_iconst (v := 2) hx hb dL_law_743 (by decide) ?_
  refine lv_iadd hx hb dL_law_744 ?_
  refine va_sld hx hb hX hbl hbA h.2.2 hi2 dL_law_745 ?_
  refine lv_aload_n hx hb dL_law_746 rfl (lv_at hl 4 rfl) ?_
  have h : rh_W G (fun q : Nat => s.heap.size ≤ q) s H locs (mw cyI cyZ xm adm fm gm ++ ((cw cyI cyZ n x ad f g ++ rq_out cyJ o fo) ++ [])) := h
  refine rj_Q ⟨hx, hb, X.2.2.1, hown, hts⟩ hA hK X.2.2.2.2.2.2.1 hU hC h (qL_entry l hlt G (cyI := cyI) (cyZ := cyZ) (cyJ := cyJ) (x := x) h1) (vx_cwSW 4 hts gL_law_L_entry rfl rfl rfl (by decide +kernel) ⟨Nat.le_of_ble_eq_true rfl, Nat.le_of_ble_eq_true rfl⟩) rfl hl.1 (rest := []) rfl (Nat.le_of_ble_eq_true rfl) dL_law_747 hf (fun H locs h => ?_)
  have h : rh_W G (fun q : Nat => s.heap.size ≤ q) s H locs (mw cyI cyZ xm adm fm gm ++ (cw cyI cyZ n x ad f g ++ rq_out cyJ o (rq_o k' fo r'.toInt64))) := h
  refine lv_istore (lv' := [(5, .int (rq_k1 k')), (4, .int x4), (0, .ref b), (1, .ref x), (2, .ref xm), (3, .ref o)]) hx hb dL_law_750 hl (by decide) rfl (fun ls hl => ?_)
  refine lv_aload_n hx hb dL_law_752 rfl (lv_at hl 4 rfl) ?_
  refine lv_aload_n hx hb dL_law_753 rfl (lv_at hl 2 rfl) ?_
  refine lv_iload hx hb dL_law_754 (lv_at hl 1 rfl) ?_
  refine lv_iconst (v := 1) hx hb dL_law_756 (by decide) ?_
  refine lv_iadd hx hb dL_law_757 ?_
  refine va_sld hx hb hX hbl hbA h.2.2 hi1 dL_law_758 ?_
  refine lv_aload_n hx hb dL_law_759 rfl (lv_at hl 2 rfl) ?_
  refine lv_iload hx hb dL_law_760 (lv_at hl 1 rfl) ?_
  refine lv_iconst (v := 2) hx hb dL_law_762 (by decide) ?_
  refine lv_iadd hx hb dL_law_763 ?_
  refine va_sld hx hb hX hbl hbA h.2.2 hi2 dL_law_764 ?_
  have h : rh_W G (fun q : Nat => s.heap.size ≤ q) s H locs ([] ++ (mw cyI cyZ xm adm fm gm ++ (cw cyI cyZ n x ad f g ++ rq_out cyJ o (rq_o k' fo r'.toInt64)))) := h
  refine rj_Vi ⟨hx, hb, X.2.2.1, hown, hts⟩ hA (hK.sub (tys' := [(cyI, .int), (cyZ, .boolean)]) [0, 1] rfl) rn_nil h (kX3_entry l G (cyI := cyI) (cyZ := cyZ) (x := xm) (ad := adm) h2) (cwV 2 hts gL_law_X3_entry rfl rfl rfl (by decide +kernel) ⟨Nat.le_of_ble_eq_true rfl, Nat.le_of_ble_eq_true rfl⟩) (va_recv hK h.1 (ci := 3) (q0 := 0) rfl rfl) rfl hl.1 (rest := []) rfl (Nat.le_of_ble_eq_true rfl) dL_law_765 hf (fun H locs h => ?_)
  have h : rh_W G (fun q : Nat => s.heap.size ≤ q) s H locs (mw cyI cyZ xm adm fm' gm' ++ (cw cyI cyZ n x ad f g ++ rq_out cyJ o (rq_o k' fo r'.toInt64))) := h
  refine lv_istore (lv' := [(6, .int b'), (5, .int (rq_k1 k')), (4, .int x4), (0, .ref b), (1, .ref x), (2, .ref xm), (3, .ref o)]) hx hb dL_law_768 hl (by decide) rfl (fun ls hl => ?_)
  refine lv_aload_n hx hb dL_law_770 rfl (lv_at hl 5 rfl) ?_
  have h : rh_W G (fun q : Nat => s.heap.size ≤ q) s H locs ([] ++ (mw cyI cyZ xm adm fm' gm' ++ (cw cyI cyZ n x ad f g ++ rq_out cyJ o (rq_o k' fo r'.toInt64)))) := h
  refine rj_Vi ⟨hx, hb, X.2.2.1, hown, hts⟩ hA (hK.sub (tys' := [(cyI, .int), (cyZ, .boolean)]) [0, 1] rfl) rn_nil h (kX3_thrown l G (cyI := cyI) (cyZ := cyZ) (x := xm) (ad := adm) (show sX3_thrown fm' gm' = some (fm' 0) from rfl)) (cwV 0 hts gL_law_X3_thrown rfl rfl rfl (by decide +kernel) ⟨Nat.le_of_ble_eq_true rfl, Nat.le_of_ble_eq_true rfl⟩) (va_recv hK h.1 (ci := 3) (q0 := 0) rfl rfl) rfl hl.1 (rest := []) rfl (Nat.le_of_ble_eq_true rfl) dL_law_771 hf (fun H locs h => ?_)
  have h : rh_W G (fun q : Nat => s.heap.size ≤ q) s H locs (mw cyI cyZ xm adm fm' gm' ++ (cw cyI cyZ n x ad f g ++ rq_out cyJ o (rq_o k' fo r'.toInt64))) := h
  refine lv_iload hx hb dL_law_774 (lv_at hl 1 rfl) ?_
  refine lv_icmp_eq (tgt := 781) hx hb dL_law_776 (by decide) (fun c9 => ?_) (fun c9 => absurd h3 c9)
  refine lv_iload hx hb dL_law_781 (lv_at hl 1 rfl) ?_
  refine lv_if_ne (tgt := 798) hx hb dL_law_783 (by decide) (fun c9 => ?_) (fun c9 => ?_)
  · refine lv_goto (tgt := 826) hx hb dL_law_798 (by decide) ?_
    exact nx H locs ls ad f g fm' gm' (rq_o k' fo r'.toInt64) hR h (lv_sub hl [2, 3, 4, 5, 6] rfl)
  · have hk0 := rq_k1_0 c9
    refine lv_aload_n hx hb dL_law_786 rfl (lv_at hl 6 rfl) ?_
    refine lv_iconst (v := 0) hx hb dL_law_787 (by decide) ?_
    refine va_lald hx hb hK h.1 23 2 rfl rfl (vp_in_nI (n := 0) (N := 1) (by decide) (by decide)) dL_law_788 ?_
    refine lv_iload hx hb dL_law_789 (lv_at hl 0 rfl) ?_
    refine lv_i2l hx hb dL_law_791 rfl ?_
    refine W.lcmp hx hb dL_law_792 ?_
    refine lv_if_eq (tgt := 798) hx hb dL_law_793 (by decide) (fun c8 => ?_) (fun c8 => absurd (by rw [rq_o_0 hk0, h4 hk0]; exact lg_cmp_same _) c8)
    · refine lv_goto (tgt := 826) hx hb dL_law_798 (by decide) ?_
      exact nx H locs ls ad f g fm' gm' (rq_o k' fo r'.toInt64) hR h (lv_sub hl [2, 3, 4, 5, 6] rfl)
set_option maxHeartbeats 4000000 in
set_option maxRecDepth 100000 in
theorem w_count {p : Program} {l : Launch} {e : Env} {s : State} {m : MethodId} {below : List Frame} {meth : Method} {c : Code} {Q : State → Prop} {b L : Nat} {xs : Nat → Int32} {G : va_G} {cyI cyZ cyJ : ClassId} {n x xm o : Nat} {adm : Nat → Nat} {REL : rl_T} (hlt : l.stackTraces = false) (X : rh_X p s m #[Value.ref b] c cL_law 7 RL wsL_law G [(cyI, .int), (cyZ, .boolean), (cyJ, .long)] rn_C (fun q : Nat => s.heap.size ≤ q)) (hX : va_X b L xs s s.heap) (hbl : b < s.heap.size) (hU : rt_U (fun q : Nat => s.heap.size ≤ q) s s.heap) (hC : va_Nc "java/lang/IllegalStateException" "java/lang/IllegalArgumentException" s) (hp : pu_count REL) {k : Nat} (hk : k < 512) {x4 : Int32} (hi1 : vp_in (x4 + 1) L) {cells slots : Nat} (hf : cells + 1 ≤ room_1.cells ∧ slots + 6 ≤ room_1.slots) (nx : rl_next p l e s m below meth c Q b G cyI cyZ cyJ n x xm o adm REL (k + 1) x4 (cells + 1) (slots + 6)) {H : Heap} {locs : List Loc} {ls : Array Slot} {ad : Nat → Nat} {f : Nat → Int32} {g : Nat → Nat → Int32} {fm : Nat → Int32} {gm : Nat → Nat → Int32} {fo : Nat → Int64} (hR : REL n k f g fm gm) (h : rh_W G (fun q : Nat => s.heap.size ≤ q) s H locs (mw cyI cyZ xm adm fm gm ++ (cw cyI cyZ n x ad f g ++ rq_out cyJ o fo))) (hl : lv_has ls 7 [(4, .int x4), (0, .ref b), (1, .ref x), (2, .ref xm), (3, .ref o)]) : W p l e room_1 s m #[Value.ref b] below meth c H locs cells slots Q (F0 m 801 ls []) := by
  have hx := X.1
  have hb := X.2.1
  have hown := X.2.2.2.1
  have hts := X.2.2.2.2.1
  have hK := X.2.2.2.2.2.1
  have hA := X.2.2.2.2.2.2.2
  have hbA : ¬ (fun q : Nat => s.heap.size ≤ q) b := Nat.not_le.mpr hbl
  have hf0 : cells + 0 ≤ room_1.cells ∧ slots + 0 ≤ room_1.slots := ⟨by omega, by omega⟩
  obtain ⟨r', fm', gm', h1, h2, hR⟩ := hp n k ad f g fm gm (xs (x4 + 1).toNatClampNeg) hk hR
  refine lv_aload_n hx hb dL_law_801 rfl (lv_at hl 2 rfl) ?_
  refine lv_aload_n hx hb dL_law_802 rfl (lv_at hl 1 rfl) ?_
  refine lv_iload hx hb dL_law_803 (lv_at hl 0 rfl) ?_
  refine lv_iconst (v := 1) hx hb dL_law_805 (by decide) ?_
  refine lv_iadd hx hb dL_law_806 ?_
  refine va_sld hx hb hX hbl hbA h.2.2 hi1 dL_law_807 ?_
  refine rj_Vi ⟨hx, hb, X.2.2.1, hown, hts⟩ hA (hK.sub (tys' := [(cyI, .int), (cyZ, .boolean)]) [0, 1] rfl) X.2.2.2.2.2.2.1 h (kX2_count l G (cyI := cyI) (cyZ := cyZ) (x := x) h1) (cwV 1 hts gL_law_X2_count rfl rfl rfl (by decide +kernel) ⟨Nat.le_of_ble_eq_true rfl, Nat.le_of_ble_eq_true rfl⟩) (va_recv hK h.1 (ci := 2) (q0 := 9) rfl rfl) rfl hl.1 (rest := []) rfl (Nat.le_of_ble_eq_true rfl) dL_law_808 hf0 (fun H locs h => ?_)
  have h : rh_W G (fun q : Nat => s.heap.size ≤ q) s H locs (mw cyI cyZ xm adm fm gm ++ (cw cyI cyZ n x ad f g ++ rq_out cyJ o fo)) := h
  refine lv_aload_n hx hb dL_law_811 rfl (lv_at hl 3 rfl) ?_
  refine lv_aload_n hx hb dL_law_812 rfl (lv_at hl 1 rfl) ?_
  refine lv_iload hx hb dL_law_813 (lv_at hl 0 rfl) ?_
  refine lv_iconst (v := 1) hx hb dL_law_815 (by decide) ?_
  refine lv_iadd hx hb dL_law_816 ?_
  refine va_sld hx hb hX hbl hbA h.2.2 hi1 dL_law_817 ?_
  have h : rh_W G (fun q : Nat => s.heap.size ≤ q) s H locs ([] ++ (mw cyI cyZ xm adm fm gm ++ (cw cyI cyZ n x ad f g ++ rq_out cyJ o fo))) := h
  refine rj_Vi ⟨hx, hb, X.2.2.1, hown, hts⟩ hA (hK.sub (tys' := [(cyI, .int), (cyZ, .boolean)]) [0, 1] rfl) rn_nil h (kX3_count l G (cyI := cyI) (cyZ := cyZ) (x := xm) (ad := adm) h2) (cwV 1 hts gL_law_X3_count rfl rfl rfl (by decide +kernel) ⟨Nat.le_of_ble_eq_true rfl, Nat.le_of_ble_eq_true rfl⟩) (va_recv hK h.1 (ci := 3) (q0 := 0) rfl rfl) rfl hl.1 (rest := [.int r']) rfl (Nat.le_of_ble_eq_true rfl) dL_law_818 hf0 (fun H locs h => ?_)
  have h : rh_W G (fun q : Nat => s.heap.size ≤ q) s H locs (mw cyI cyZ xm adm fm' gm' ++ (cw cyI cyZ n x ad f g ++ rq_out cyJ o fo)) := h
  refine lv_icmp_eq (tgt := 826) hx hb dL_law_821 (by decide) (fun c9 => ?_) (fun c9 => absurd rfl c9)
  refine W.widen (k := cells + 1) (n := slots + 6) (Nat.le_add_right _ _) (Nat.le_add_right _ _) ?_
  exact nx H locs ls ad f g fm' gm' fo hR h hl
