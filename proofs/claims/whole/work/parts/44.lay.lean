theorem nI_nz {i : Nat} (h : 1 ≤ i) (hi : i < 2 ^ 31) : ¬ nI i = 0 := fun q => by
  have := nI_inj (b := 0) hi (by decide) q
  omega
set_option maxHeartbeats 1000000 in
theorem lay_loop {n c u z r : Nat} (hn : n ≤ 400) (hc1 : c ≤ 1) (hz : u + z < n) {fm : Nat → Int32} (m3 : fm 3 = nI c) {ad : Nat → Nat} : ∀ (m i k k2 : Nat) (f : Nat → Int32) (g gm : Nat → Nat → Int32), m + i = z + 1 → m < k → m < k2 → 1 ≤ i → RAx n c n (gm 0) (g 4) (g 7) → RAx n c n (gm 1) (g 5) (g 8) → f 13 = nI u →
    ∃ g' gm', sX1_layObject_21 k n ad f g (nI z) (nI u) (nI i) = some (nI u, upd f 13 (nI (u + (z + 1))), g') ∧ sX3_alloc_95 k2 fm gm (nI r) (nI z) 1 (nI u) (nI i) = sX3_alloc_95 (k2 - m) fm gm' (nI r) (nI z) 1 (nI u) (nI (z + 1))
      ∧ RAx n c n (gm' 0) (g' 4) (g' 7) ∧ RAx n c n (gm' 1) (g' 5) (g' 8) ∧ (∀ j, g' 4 j = if u + i ≤ j ∧ j ≤ u + z then 0 else g 4 j) ∧ (∀ j, g' 5 j = if u + i ≤ j ∧ j ≤ u + z then 0 else g 5 j) ∧ (∀ b, b ≠ 4 → b ≠ 5 → g' b = g b) ∧ (∀ b, b ≠ 0 → b ≠ 1 → gm' b = gm b) := by
  intro m
  induction m with
  | zero =>
    intro i k k2 f g gm hmi hk hk2 hi r0 r1 hf
    obtain ⟨k, rfl⟩ : ∃ k', k = k' + 1 := ⟨k - 1, by omega⟩
    have ei : i = z + 1 := by omega
    subst ei
    refine ⟨g, gm, ?_, rfl, r0, r1, fun j => by rw [if_neg (by omega)], fun j => by rw [if_neg (by omega)], fun _ _ _ => rfl, fun _ _ _ => rfl⟩
    rw [sX1_layObject_21, if_pos (nI_lt (by omega) (by omega)), lt_s', hf, nI_1, nI_add]
  | succ m ih =>
    intro i k k2 f g gm hmi hk hk2 hi r0 r1 hf
    obtain ⟨k, rfl⟩ : ∃ k', k = k' + 1 := ⟨k - 1, by omega⟩
    obtain ⟨k2, rfl⟩ : ∃ k', k2 = k' + 1 := ⟨k2 - 1, by omega⟩
    have hlt : ¬ nI z < nI i := fun q => absurd ((nI_ltI (by omega) (by omega)).mp q) (by omega)
    have em : nI (400 * c + u) + nI i = nI (400 * c + (u + i)) := by rw [nI_add, Nat.add_assoc]
    obtain ⟨g', gm', e1, e2, s0, s1, d4, d5, d, dm⟩ := ih (i + 1) k k2 f (ur (ur g 4 (upd (g 4) (u + i) 0)) 5 (upd (g 5) (u + i) 0)) (ur (ur gm 0 (upd (gm 0) (400 * c + (u + i)) 0)) 1 (upd (gm 1) (400 * c + (u + i)) 0)) (by omega) (by omega) (by omega) (by omega) (r0.updC hn hc1 (by omega)) (r1.updC hn hc1 (by omega)) hf
    refine ⟨g', gm', ?_, ?_, s0, s1, fun j => ?_, fun j => ?_, fun b h4 h5 => (d b h4 h5).trans (by rw [ur_n h5, ur_n h4]), fun b h0 h1 => (dm b h0 h1).trans (by rw [ur_n h1, ur_n h0])⟩
    · rw [sX1_layObject_21, if_neg hlt, nI_add, setC_s (by omega) hn, bWv_s, nI_1]
      exact e1
    · rw [sX3_alloc_95, if_neg hlt, m3, at_s, bR_s, if_neg (nI_nz hi (by omega)), em, wt_n (by omega) (by omega), bR_s, if_neg (nI_nz hi (by omega)), em, wt_n (by omega) (by omega), nI_clamp (by omega), nI_1, show k2 + 1 - (m + 1) = k2 - m by omega]
      exact e2
    · rw [d4]
      by_cases hj : j = u + i
      · subst hj
        rw [if_neg (by omega), if_pos (by omega), ur_n (by decide), ur_s, upd_s]
      · by_cases h1 : u + (i + 1) ≤ j ∧ j ≤ u + z
        · rw [if_pos h1, if_pos (by omega)]
        · rw [if_neg h1, if_neg (by omega), ur_n (by decide), ur_s, upd_n hj]
    · rw [d5]
      by_cases hj : j = u + i
      · subst hj
        rw [if_neg (by omega), if_pos (by omega), ur_s, upd_s]
      · by_cases h1 : u + (i + 1) ≤ j ∧ j ≤ u + z
        · rw [if_pos h1, if_pos (by omega)]
        · rw [if_neg h1, if_neg (by omega), ur_s, upd_n hj]
/-- what laying an object at u does to the class's rows -/
def Lay (g g' : Nat → Nat → Int32) (u z : Nat) : Prop := (∀ j, g' 4 j = if j = u then 3 else if u < j ∧ j ≤ u + z then 0 else g 4 j) ∧ (∀ j, g' 5 j = if j = u then nI z else if u < j ∧ j ≤ u + z then 0 else g 5 j) ∧ g' 6 = upd (g 6) u (-1) ∧ (∀ b, b ≠ 4 → b ≠ 5 → b ≠ 6 → g' b = g b)
theorem Lay.lo {g g' : Nat → Nat → Int32} {u z j : Nat} (h : Lay g g' u z) (hj : j < u) : g' 4 j = g 4 j ∧ g' 5 j = g 5 j ∧ g' 6 j = g 6 j := ⟨by rw [h.1, if_neg (by omega), if_neg (by omega)], by rw [h.2.1, if_neg (by omega), if_neg (by omega)], by rw [h.2.2.1, upd_n (by omega)]⟩
theorem Lay.up {g g' : Nat → Nat → Int32} {u z t z' : Nat} (h : Lay g g' u z) (ht : hc g u t z') : hc g' (u + (z + 1)) t z' := by
  have hl := h.lo (j := t) (by have := ht.1; omega)
  exact ht.ext (by omega) hl.1 hl.2.1
theorem Lay.new {g g' : Nat → Nat → Int32} {u z : Nat} (h : Lay g g' u z) (hz1 : 1 ≤ z) (hz8 : z ≤ 8) : hc g' (u + (z + 1)) u z := ⟨by omega, by rw [h.1, if_pos rfl], by rw [h.2.1, if_pos rfl], hz1, hz8⟩
theorem Lay.mid {g g' : Nat → Nat → Int32} {u z j : Nat} (h : Lay g g' u z) (h1 : u < j) (h2 : j ≤ u + z) : g' 4 j = 0 := by rw [h.1, if_neg (by omega), if_pos ⟨h1, h2⟩]
theorem Lay.back {c u z t z' : Nat} {g g' : Nat → Nat → Int32} (h : Lay g g' u z) (iH : IH c u g) (ht : hc g' (u + (z + 1)) t z') : t = u ∨ hc g u t z' := by
  have hb := ht.1
  rcases Nat.lt_trichotomy t u with h1 | h1 | h1
  · obtain ⟨e4, e5, -⟩ := h.lo h1
    obtain ⟨z2, b1, -⟩ := (iH t h1).1 (e4 ▸ ht.2.1)
    have : z' = z2 := b1.same (e5 ▸ ht.2.2.1) (by have := ht.2.2.2.2; omega)
    subst this
    exact Or.inr b1
  · exact Or.inl h1
  · have := h.mid h1 (by omega)
    rw [ht.2.1] at this
    exact absurd this (by decide)
set_option maxHeartbeats 1000000 in
theorem lay_inv {n c u o sc lg z : Nat} {g g' : Nat → Nat → Int32} (hz1 : 1 ≤ z) (hz8 : z ≤ 8) (iU : IU u o g) (iH : IH c u g) (iO : IO c u o sc n g) (iR : IR u o g) (iG : IG u g) (iL : IL u lg g) (L : Lay g g' u z) :
    IU (u + (z + 1)) o g' ∧ IH c (u + (z + 1)) g' ∧ IO c (u + (z + 1)) o sc n g' ∧ IR (u + (z + 1)) o g' ∧ IG (u + (z + 1)) g' ∧ IL (u + (z + 1)) lg g' := by
  have e0 : g' 0 = g 0 := L.2.2.2 0 (by decide) (by decide) (by decide)
  have e1 : g' 1 = g 1 := L.2.2.2 1 (by decide) (by decide) (by decide)
  have e2 : g' 2 = g 2 := L.2.2.2 2 (by decide) (by decide) (by decide)
  have e3 : g' 3 = g 3 := L.2.2.2 3 (by decide) (by decide) (by decide)
  have e7 : g' 7 = g 7 := L.2.2.2 7 (by decide) (by decide) (by decide)
  have e8 : g' 8 = g 8 := L.2.2.2 8 (by decide) (by decide) (by decide)
  have e9 : g' 9 = g 9 := L.2.2.2 9 (by decide) (by decide) (by decide)
  have hO : ∀ t z', ho g' o t z' ↔ ho g o t z' := fun t z' => by unfold ho; rw [e7, e8]
  have hnew := L.new hz1 hz8
  have h6 : g' 6 u = -1 := by rw [L.2.2.1, upd_s]
  refine ⟨⟨?_, ?_⟩, ?_, ?_, ?_, ?_, ?_⟩
  · rw [show u + (z + 1) = (u + 1) + z by omega, sm_zero (fun j h1 h2 => wC_no (fun q => by
      have := L.mid (j := j) (by omega) (by omega)
      rw [q.1] at this
      exact absurd this (by decide)))]
    show o + (sm (wC g') u + wC g' u) ≤ _
    rw [wC_of hnew.2.1 hnew.2.2.1 hz8 h6, sm_ext (v := wC g) (fun j hj => by unfold wC; rw [(L.lo hj).1, (L.lo hj).2.1, (L.lo hj).2.2])]
    have := iU.1
    omega
  · rw [sm_ext (v := wO g) (fun j hj => by unfold wO; rw [e7, e8])]
    exact iU.2
  · intro p hp
    rcases Nat.lt_trichotomy p u with h1 | h1 | h1
    · obtain ⟨a1, a2⟩ := iH p h1
      obtain ⟨q4, q5, -⟩ := L.lo h1
      rw [q4, q5]
      refine ⟨fun h => ?_, ?_⟩
      · obtain ⟨z2, b1, b2⟩ := a1 h
        refine ⟨z2, L.up b1, fun j j1 j2 => ?_⟩
        rw [(L.lo (j := j) (by have := b1.1; omega)).1]
        exact b2 j j1 j2
      · rcases a2 with a2 | a2 | ⟨a2, t, z2, b1, b2⟩
        · exact Or.inl a2
        · exact Or.inr (Or.inl a2)
        · exact Or.inr (Or.inr ⟨a2, t, z2, b1, L.up b2⟩)
    · subst h1
      refine ⟨fun _ => ⟨z, hnew, fun j j1 j2 => ?_⟩, Or.inl hnew.2.1⟩
      rw [L.mid j1 j2]
      decide
    · have hm := L.mid h1 (by omega)
      rw [hm]
      exact ⟨fun h => absurd h (by decide), Or.inr (Or.inl rfl)⟩
  · intro p hp
    obtain ⟨a1, a2⟩ := iO p hp
    rw [e7, e8, e9]
    refine ⟨fun h => ?_, fun hne => ?_⟩
    · obtain ⟨b0, z2, b1, b2⟩ := a1 h
      exact ⟨b0, z2, (hO _ _).mpr b1, b2⟩
    · rcases a2 hne with a2 | a2 | ⟨a2, t, z2, b1, b2⟩ | ⟨a0, a2, t, z2, b1, b2⟩
      · exact Or.inl a2
      · exact Or.inr (Or.inl a2)
      · exact Or.inr (Or.inr (Or.inl ⟨a2, t, z2, b1, (hO _ _).mpr b2⟩))
      · exact Or.inr (Or.inr (Or.inr ⟨a0, a2, t, z2, b1, L.up b2⟩))
  · intro p z2 hp
    rcases L.back iH hp with e | hp
    · subst e
      exact Or.inl h6
    · rw [(L.lo (j := p) (by have := hp.1; omega)).2.2]
      rcases iR p z2 hp with a | ⟨t, a, b⟩
      · exact Or.inl a
      · exact Or.inr ⟨t, a, (hO _ _).mpr b⟩
  · intro r hr
    rw [e0, e1]
    rcases iG r hr with a | ⟨a, t, z2, b1, b2⟩
    · exact Or.inl a
    · exact Or.inr ⟨a, t, z2, b1, L.up b2⟩
  · intro i hi
    rw [e2, e3]
    obtain ⟨p, z2, j, b1, b2, b3⟩ := iL i hi
    exact ⟨p, z2, j, b1, L.up b2, b3⟩
set_option maxHeartbeats 1000000 in
theorem lay_op {n c u o sc lg tk r z : Nat} {f fm : Nat → Int32} {g gm : Nat → Nat → Int32} {ad : Nat → Nat} (h : ST n c u o sc lg tk f g fm gm) (hz1 : 1 ≤ z) (hz8 : z ≤ 8) (hroom : u + z + 1 ≤ n) (hr : r < 16) :
    ∃ g1 gm1, sX1_layObject n ad f g (nI z) = some (nI u, upd f 13 (nI (u + (z + 1))), g1) ∧ sX3_alloc_95 40 fm gm (nI r) (nI z) 1 (nI u) 0 = sX3_alloc_95 (39 - z) fm gm1 (nI r) (nI z) 1 (nI u) (nI (z + 1)) ∧ gm1 3 c = nI u
      ∧ ST n c (u + (z + 1)) o sc lg tk (upd (upd f 13 (nI (u + (z + 1)))) 6 (f 6 + 1)) (ur (ur g1 0 (upd (g1 0) r 1)) 1 (upd (g1 1) r (nI u))) (upd fm 12 (fm 12 + 1)) (ur (ur (ur (ur gm1 2 (upd (gm1 2) (400 * c + u) (-1))) 3 (upd (gm1 3) c (nI (u + (z + 1))))) 4 (upd (gm1 4) r 1)) 5 (upd (gm1 5) r (nI u))) := by
  obtain ⟨P, h3, hsc, hrun⟩ := h
  obtain ⟨⟨⟨hn1, hn2, hc1, hun, htk1, hlg⟩, f0, f12, f14, f13, f15, f10, f11⟩, iU, iH, iO, iR, iG, iL, ⟨s1, s2, s3, s4, s5, s6, s7, s8, s9, s10⟩, ra0, ra1, ra2, rc, ro, rr, rl⟩ := P
  have m3 : fm 3 = nI c := s3.trans f12
  have x0 : RAx n c n (upd (gm 0) (400 * c + u) 3) (upd (g 4) u 3) (g 7) := ra0.updC hn2 hc1 (by omega)
  have x1 : RAx n c n (upd (gm 1) (400 * c + u) (nI z)) (upd (g 5) u (nI z)) (g 8) := ra1.updC hn2 hc1 (by omega)
  obtain ⟨g1, gm1, e1, e2, y0, y1, d4, d5, d, dm⟩ := lay_loop (r := r) hn2 hc1 (u := u) (z := z) (by omega) m3 (ad := ad) z 1 40 39 f (ur (ur (ur g 4 (upd (g 4) u 3)) 5 (upd (g 5) u (nI z))) 6 (upd (g 6) u (-1))) (ur (ur gm 0 (upd (gm 0) (400 * c + u) 3)) 1 (upd (gm 1) (400 * c + u) (nI z))) (by omega) (by omega) (by omega) (by omega) x0 x1 f13
  have L : Lay g g1 u z := by
    refine ⟨fun j => ?_, fun j => ?_, ?_, fun b h4 h5 h6 => ?_⟩
    · rw [d4]
      by_cases e : j = u
      · subst e
        rw [if_neg (by omega), if_pos rfl, ur_n (by decide), ur_n (by decide), ur_s, upd_s]
      · rw [if_neg e, ur_n (by decide), ur_n (by decide), ur_s, upd_n e]
        by_cases q : u + 1 ≤ j ∧ j ≤ u + z
        · rw [if_pos q, if_pos (by omega)]
        · rw [if_neg q, if_neg (by omega)]
    · rw [d5]
      by_cases e : j = u
      · subst e
        rw [if_neg (by omega), if_pos rfl, ur_n (by decide), ur_s, upd_s]
      · rw [if_neg e, ur_n (by decide), ur_s, upd_n e]
        by_cases q : u + 1 ≤ j ∧ j ≤ u + z
        · rw [if_pos q, if_pos (by omega)]
        · rw [if_neg q, if_neg (by omega)]
    · rw [d 6 (by decide) (by decide), ur_s]
    · rw [d b h4 h5, ur_n h6, ur_n h5, ur_n h4]
  obtain ⟨jU, jH, jO, jR, jG, jL⟩ := lay_inv (n := n) hz1 hz8 iU iH iO iR iG iL L
  have e0 : g1 0 = g 0 := L.2.2.2 0 (by decide) (by decide) (by decide)
  have q1 : g1 1 = g 1 := L.2.2.2 1 (by decide) (by decide) (by decide)
  have q2 : g1 2 = g 2 := L.2.2.2 2 (by decide) (by decide) (by decide)
  have q3 : g1 3 = g 3 := L.2.2.2 3 (by decide) (by decide) (by decide)
  have q9 : g1 9 = g 9 := L.2.2.2 9 (by decide) (by decide) (by decide)
  have w2 : gm1 2 = gm 2 := dm 2 (by decide) (by decide)
  have w3 : gm1 3 = gm 3 := dm 3 (by decide) (by decide)
  have w4 : gm1 4 = gm 4 := dm 4 (by decide) (by decide)
  have w5 : gm1 5 = gm 5 := dm 5 (by decide) (by decide)
  have w6 : gm1 6 = gm 6 := dm 6 (by decide) (by decide)
  have w7 : gm1 7 = gm 7 := dm 7 (by decide) (by decide)
  have P1 : PR n c (u + (z + 1)) o sc lg tk n (upd (upd f 13 (nI (u + (z + 1)))) 6 (f 6 + 1)) g1 (upd fm 12 (fm 12 + 1)) (ur (ur gm1 2 (upd (gm1 2) (400 * c + u) (-1))) 3 (upd (gm1 3) c (nI (u + (z + 1))))) := by
    refine ⟨⟨⟨hn1, hn2, hc1, by omega, htk1, hlg⟩, f0, f12, f14, rfl, f15, f10, f11⟩, jU, jH, jO, jR, jG, jL, ⟨s1, s2, s3, s4, s5, s6, s7, s8, s9, ?_⟩, y0, y1, ?_, ?_, ?_, ?_, ?_⟩
    · show fm 12 + 1 = f 6 + 1
      rw [s10]
    · rw [ur_n (by decide), ur_s, L.2.2.1, w2, q9]
      exact ra2.updC hn2 hc1 (by omega)
    · rw [ur_s, upd_s]
      rfl
    · rw [ur_s, upd_n (by omega), w3]
      exact ro
    · intro j hj
      rw [ur_n (by decide), ur_n (by decide), ur_n (by decide), ur_n (by decide), w4, w5, e0, q1]
      exact rr j hj
    · intro j hj
      rw [ur_n (by decide), ur_n (by decide), ur_n (by decide), ur_n (by decide), w6, w7, q2, q3]
      exact rl j hj
  have P2 := P1.root (r := r) (v := 1) (x := nI u) (w := 0) (Or.inr ⟨rfl, u, z, rfl, L.new hz1 hz8⟩)
  refine ⟨g1, gm1, ?_, ?_, by rw [w3, rc, f13], P2, h3, hsc, ?_⟩
  · unfold sX1_layObject
    rw [f13, setC_s (by omega) hn2, bWv_s, wt_n (by omega) (by omega), nI_clamp (by omega)]
    exact e1
  · have hlt : ¬ nI z < 0 := nI_pos (by omega)
    rw [sX3_alloc_95, if_neg hlt, m3, at_s, bR_s, if_pos rfl, Int32.add_zero, wt_n (by omega) (by omega), bR_s, if_pos rfl, Int32.add_zero, wt_n (by omega) (by omega), nI_clamp (by omega)]
    exact e2
  · rcases hrun with a | ⟨a, b1, b2, b3, b4, b5⟩
    · exact Or.inl a
    · refine Or.inr ⟨a, b1, b2, b3, b4, fun p z2 hp => ?_⟩
      have hp : hc g1 (u + (z + 1)) p z2 := hp
      show g1 6 p = -1
      rcases L.back iH hp with e | hp
      · subst e
        rw [L.2.2.1, upd_s]
      · rw [(L.lo (j := p) (by have := hp.1; omega)).2.2]
        exact b5 p z2 hp
