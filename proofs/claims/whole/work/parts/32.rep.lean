theorem nI3_ne {c : Nat} (hc : c ≤ 1) : (3 : Int32) ≠ nI (1 + c) ∧ (3 : Int32) ≠ nI (2 - c) ∧ (0 : Int32) ≠ nI (1 + c) ∧ (0 : Int32) ≠ nI (2 - c) ∧ nI (1 + c) ≠ nI (2 - c) := by
  rcases Nat.le_one_iff_eq_zero_or_eq_one.mp hc with rfl | rfl <;> decide
theorem wC_of {g : Nat → Nat → Int32} {p z : Nat} (h4 : g 4 p = 3) (h5 : g 5 p = nI z) (hz : z ≤ 8) (h6 : g 6 p = -1) : wC g p = z + 1 := by
  unfold wC
  rw [if_pos ⟨h4, h6⟩, h5, nI_clamp (by omega)]
theorem wC_no {g : Nat → Nat → Int32} {p : Nat} (h : ¬ (g 4 p = 3 ∧ g 6 p = -1)) : wC g p = 0 := by
  unfold wC
  rw [if_neg h]
theorem wO_of {g : Nat → Nat → Int32} {p z : Nat} (h4 : g 7 p = 3) (h5 : g 8 p = nI z) (hz : z ≤ 8) : wO g p = z + 1 := by
  unfold wO
  rw [if_pos h4, h5, nI_clamp (by omega)]
theorem wO_no {g : Nat → Nat → Int32} {p : Nat} (h : ¬ g 7 p = 3) : wO g p = 0 := by
  unfold wO
  rw [if_neg h]
/-- what a replication does to the class's rows -/
def Rep (g g' : Nat → Nat → Int32) (o p z : Nat) : Prop := (∀ j, g' 7 j = if o ≤ j ∧ j ≤ o + z then g 4 (p + (j - o)) else g 7 j) ∧ (∀ j, g' 8 j = if o ≤ j ∧ j ≤ o + z then g 5 (p + (j - o)) else g 8 j) ∧ g' 9 = upd (g 9) o (-1) ∧ g' 6 = upd (g 6) p (nI o) ∧ (g' 0 = g 0 ∧ g' 1 = g 1 ∧ g' 2 = g 2 ∧ g' 3 = g 3 ∧ g' 4 = g 4 ∧ g' 5 = g 5)
theorem Rep.lo {g g' : Nat → Nat → Int32} {o p z j : Nat} (h : Rep g g' o p z) (hj : j < o) : g' 7 j = g 7 j ∧ g' 8 j = g 8 j := ⟨by rw [h.1, if_neg (by omega)], by rw [h.2.1, if_neg (by omega)]⟩
theorem Rep.h4 {g g' : Nat → Nat → Int32} {o p z u p' z' : Nat} (h : Rep g g' o p z) : hc g' u p' z' ↔ hc g u p' z' := by
  obtain ⟨-, -, -, -, -, -, -, -, h4, h5⟩ := h
  unfold hc
  rw [h4, h5]
set_option maxHeartbeats 1000000 in
theorem rep_inv {n c u o sc lg q : Nat} {g g' : Nat → Nat → Int32} {p z : Nat} (hn2 : n ≤ 400) (hc1 : c ≤ 1) (hun : u ≤ n) (hsc : sc ≤ o) (iU : IU u o g) (iH : IH c u g) (iO : IO c u o sc q g) (iR : IR u o g) (iG : IG u g) (iL : IL u lg g) (hp : hc g u p z) (h6 : g 6 p = -1) (R : Rep g g' o p z) :
    IU u (o + (z + 1)) g' ∧ IH c u g' ∧ IO c u (o + (z + 1)) sc q g' ∧ IR u (o + (z + 1)) g' ∧ IG u g' ∧ IL u lg g' ∧ sm (wC g) u = (z + 1) + sm (wC g') u := by
  obtain ⟨hpu, h4, h5, hz1, hz8⟩ := id hp
  obtain ⟨r7, r8, r9, r6, r0, r1, r2, r3, r4, r5⟩ := id R
  obtain ⟨z', hz', hfol⟩ := (iH p (by omega)).1 h4
  have ez : z = z' := hz'.same h5 (by omega)
  subst ez
  have hO : ∀ t z', ho g o t z' → ho g' (o + (z + 1)) t z' := fun t z' h => by
    have hl := R.lo (j := t) (by have := h.1; omega)
    exact h.ext (by omega) hl.1 hl.2
  have hnew : ho g' (o + (z + 1)) o z := ⟨by omega, by rw [r7, if_pos (by omega), Nat.sub_self]; exact h4, by rw [r8, if_pos (by omega), Nat.sub_self]; exact h5, hz1, hz8⟩
  have hw : sm (wC g) u = (z + 1) + sm (wC g') u := by
    refine sm_cut (q := p) ?_ (fun j hj => ?_) (by omega)
    · rw [wC_of h4 h5 hz8 h6, wC_no (fun h => nI_m1 (a := o) (by have := iU.1; omega) (by rw [← h.2, r6, upd_s]))]
    · unfold wC
      rw [r4, r5, r6, upd_n hj]
  refine ⟨⟨by have := iU.1; omega, ?_⟩, ?_, ?_, ?_, ?_, ?_, hw⟩
  · rw [show o + (z + 1) = (o + 1) + z by omega, sm_zero (fun j h1 h2 => wO_no (by rw [r7, if_pos (by omega)]; exact hfol _ (by omega) (by omega)))]
    show sm (wO g') o + wO g' o ≤ _
    rw [wO_of hnew.2.1 hnew.2.2.1 hz8, sm_ext (v := wO g) (fun j hj => by unfold wO; rw [(R.lo hj).1, (R.lo hj).2])]
    have := iU.2
    omega
  · intro j hj
    obtain ⟨a1, a2⟩ := iH j hj
    rw [r4, r5]
    refine ⟨fun h => ?_, ?_⟩
    · obtain ⟨z2, b1, b2⟩ := a1 h
      exact ⟨z2, R.h4.mpr b1, b2⟩
    · rcases a2 with a2 | a2 | ⟨a2, t, z2, b1, b2⟩
      · exact Or.inl a2
      · exact Or.inr (Or.inl a2)
      · exact Or.inr (Or.inr ⟨a2, t, z2, b1, R.h4.mpr b2⟩)
  · intro j hj
    rcases Nat.lt_or_ge j o with hjo | hjo
    · obtain ⟨a1, a2⟩ := iO j hjo
      obtain ⟨e7, e8⟩ := R.lo hjo
      refine ⟨fun h => ?_, fun hq => ?_⟩
      · rw [e7] at h
        obtain ⟨b0, z2, b1, b2⟩ := a1 h
        refine ⟨by rw [r9, upd_n (by omega)]; exact b0, z2, hO _ _ b1, fun i h1 h2 => ?_⟩
        rw [(R.lo (j := i) (by have := b1.1; omega)).1]
        exact b2 i h1 h2
      · rw [e7, e8]
        rcases a2 hq with a2 | a2 | ⟨a2, t, z2, b1, b2⟩ | ⟨a0, a2, t, z2, b1, b2⟩
        · exact Or.inl a2
        · exact Or.inr (Or.inl a2)
        · exact Or.inr (Or.inr (Or.inl ⟨a2, t, z2, b1, hO _ _ b2⟩))
        · exact Or.inr (Or.inr (Or.inr ⟨a0, a2, t, z2, b1, R.h4.mpr b2⟩))
    · have e7 : g' 7 j = g 4 (p + (j - o)) := by rw [r7, if_pos (by omega)]
      have e8 : g' 8 j = g 5 (p + (j - o)) := by rw [r8, if_pos (by omega)]
      rcases Nat.lt_or_ge o j with hlt | hge
      · have hn3 : g' 7 j ≠ 3 := by rw [e7]; exact hfol _ (by omega) (by omega)
        refine ⟨fun h => absurd h hn3, fun _ => ?_⟩
        rcases (iH (p + (j - o)) (by omega)).2 with a2 | a2 | ⟨a2, t, z2, b1, b2⟩
        · exact absurd (e7.trans a2) hn3
        · exact Or.inr (Or.inl (e7.trans a2))
        · exact Or.inr (Or.inr (Or.inr ⟨by omega, e7.trans a2, t, z2, e8.trans b1, R.h4.mpr b2⟩))
      · have ej : j = o := by omega
        subst ej
        refine ⟨fun _ => ⟨by rw [r9, upd_s], z, hnew, fun i h1 h2 => ?_⟩, fun _ => Or.inl hnew.2.1⟩
        rw [r7, if_pos (by omega)]
        exact hfol _ (by omega) (by omega)
  · intro p' z2 h
    have h := R.h4.mp h
    by_cases e : p' = p
    · subst e
      have : z2 = z := hp.same h.2.2.1 (by have := h.2.2.2.2; omega)
      subst this
      exact Or.inr ⟨o, by rw [r6, upd_s], hnew⟩
    · rw [r6, upd_n e]
      rcases iR p' z2 h with a | ⟨t, a, b⟩
      · exact Or.inl a
      · exact Or.inr ⟨t, a, hO _ _ b⟩
  · intro r hr
    rw [r0, r1]
    rcases iG r hr with a | ⟨a, t, z2, b1, b2⟩
    · exact Or.inl a
    · exact Or.inr ⟨a, t, z2, b1, R.h4.mpr b2⟩
  · intro i hi
    rw [r2, r3]
    obtain ⟨p2, z2, j2, b1, b2, b3, b4⟩ := iL i hi
    exact ⟨p2, z2, j2, b1, R.h4.mpr b2, b3, b4⟩
set_option maxHeartbeats 1000000 in
theorem rep_step {n c u o sc lg tk q : Nat} {f fm : Nat → Int32} {g gm : Nat → Nat → Int32} {ad : Nat → Nat} {p z : Nat} (h : PR n c u o sc lg tk q f g fm gm) (hsc : sc ≤ o) (hp : hc g u p z) (h6 : g 6 p = -1) :
    ∃ g' gm', sX2_replicate n ad f g (nI p) = some (nI (z + 1), upd f 15 (nI (o + (z + 1))), g') ∧ sX3_replicate fm gm (nI p) = some (nI (z + 1), fm, gm') ∧ PR n c u (o + (z + 1)) sc lg tk q (upd f 15 (nI (o + (z + 1)))) g' fm gm' ∧ Rep g g' o p z ∧ sm (wC g) u = (z + 1) + sm (wC g') u := by
  obtain ⟨⟨⟨hn1, hn2, hc1, hun, htk, hlg⟩, f0, f12, f14, f13, f15, f10, f11⟩, iU, iH, iO, iR, iG, iL, rS, ra0, ra1, ra2, rc, ro, rr, rl⟩ := h
  obtain ⟨hpu, h4, h5, hz1, hz8⟩ := id hp
  have m3 : fm 3 = nI c := rS.2.2.1.trans f12
  have hroom : o + z < n := by
    have h1 := iU.1
    have h2 : wC g p ≤ sm (wC g) u := by
      have := sm_mono (w := wC g) (u := p + 1) (v := u) (by omega)
      have : wC g p ≤ sm (wC g) (p + 1) := Nat.le_add_left _ _
      omega
    rw [wC_of h4 h5 hz8 h6] at h2
    omega
  obtain ⟨g', gm', e1, e2, d7, d8, d9, d6, d, s0, s1, s2, s3, s4, s5, s6, s7⟩ := rep_loop (q := q) hn2 hc1 (p := p) (z := z) (o := o) (by omega) hroom (ad := ad) m3 (z + 1) 0 40 f g gm (by omega) (by omega) ra0 ra1 ra2 (ro.trans f15) f15
  have R : Rep g g' o p z := ⟨fun j => by rw [d7]; rfl, fun j => by rw [d8]; rfl, d9, d6, d⟩
  obtain ⟨jU, jH, jO, jR, jG, jL, hw⟩ := rep_inv hn2 hc1 hun hsc iU iH iO iR iG iL hp h6 R
  refine ⟨g', gm', ?_, ?_, ⟨⟨⟨hn1, hn2, hc1, hun, htk, hlg⟩, f0, f12, f14, f13, rfl, f10, f11⟩, jU, jH, jO, jR, jG, jL, rS, s0, s1, s2, ?_, ?_, ?_, ?_⟩, R, hw⟩
  · unfold sX2_replicate
    rw [rd_n (by omega) (by omega), h5, nI_1, f15]
    exact e1
  · unfold sX3_replicate
    rw [m3, at_s, bR_s, rd_n (by omega) (by omega), (ra2 p (by omega)).1, h6, if_pos rfl, rd_n (by omega) (by omega), (ra1 p (by omega)).1, h5, oth_s hc1 m3, bR_s, bR_s, rd_n (by omega) (by omega), ro, f15, at_s, bR_s]
    exact e2
  · rw [s3, upd_n (by omega)]; exact rc
  · rw [s3, upd_s]; rfl
  · intro r hr
    rw [s4, s5, d.1, d.2.1]; exact rr r hr
  · intro i hi
    rw [s6, s7, d.2.2.1, d.2.2.2.1]; exact rl i hi
