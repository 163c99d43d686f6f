theorem PR.ex {n c u o sc lg tk q : Nat} {f fm : Nat → Int32} {g gm : Nat → Nat → Int32} (h : PR n c u o sc lg tk n f g fm gm) : PR n c u o sc lg tk q f g fm gm := by
  obtain ⟨iS, iU, iH, iO, iR, iG, iL, rS, ra0, ra1, ra2, rest⟩ := h
  refine ⟨iS, iU, iH, fun p hp => ⟨(iO p hp).1, fun _ => (iO p hp).2 ?_⟩, iR, iG, iL, rS, ra0.weak, ra1.weak, ra2, rest⟩
  have := iU.1
  have := iS.1.2.2.2.1
  omega
/-- place q of the other space is written, not a header before, not one behind -/
theorem putO {n c u o sc lg tk q q2 : Nat} {f fm : Nat → Int32} {g gm gm' : Nat → Nat → Int32} {kx vx : Int32} (h : PR n c u o sc lg tk q f g fm gm) (hq : q < o) (hn3 : g 7 q ≠ 3) (hk3 : kx ≠ 3)
    (hv : q = q2 ∨ kx = 0 ∨ (kx = nI (2 - c) ∧ ∃ tr z, vx = nI tr ∧ ho g o tr z)) (hq2 : q2 = q ∨ q2 = n)
    (hr : RG n c lg q2 f (ur (ur g 7 (upd (g 7) q kx)) 8 (upd (g 8) q vx)) gm') : PR n c u o sc lg tk q2 f (ur (ur g 7 (upd (g 7) q kx)) 8 (upd (g 8) q vx)) fm gm' := by
  obtain ⟨iS, iU, iH, iO, iR, iG, iL, rS, -⟩ := h
  have hlen : o ≤ n := by
    have := iU.1
    have := iS.1.2.2.2.1
    omega
  have e7 : ∀ j, (ur (ur g 7 (upd (g 7) q kx)) 8 (upd (g 8) q vx)) 7 j = upd (g 7) q kx j := fun j => by rw [ur_n (by decide), ur_s]
  have e8 : ∀ j, (ur (ur g 7 (upd (g 7) q kx)) 8 (upd (g 8) q vx)) 8 j = upd (g 8) q vx j := fun j => by rw [ur_s]
  have hO : ∀ t z, ho g o t z → ho (ur (ur g 7 (upd (g 7) q kx)) 8 (upd (g 8) q vx)) o t z := fun t z h => by
    have : t ≠ q := fun e => hn3 (by rw [← e]; exact h.2.1)
    exact h.ext (Nat.le_refl _) (by rw [e7, upd_n this]) (by rw [e8, upd_n this])
  refine ⟨iS, ⟨?_, ?_⟩, iH, ?_, ?_, iG, iL, rS, hr⟩
  · exact iU.1
  · rw [sm_ext (v := wO g) (fun p _ => ?_)]
    · exact iU.2
    · by_cases e : p = q
      · subst e
        rw [wO_no hn3, wO_no (by rw [e7, upd_s]; exact hk3)]
      · unfold wO
        rw [e7, e8, upd_n e, upd_n e]
  · intro p hp
    obtain ⟨a1, a2⟩ := iO p hp
    rw [e7, e8]
    by_cases e : p = q
    · subst e
      rw [upd_s, upd_s]
      refine ⟨fun h => absurd h hk3, fun hne => ?_⟩
      rcases hv with hv | hv | ⟨hv, tr, z, b1, b2⟩
      · exact absurd hv hne
      · exact Or.inr (Or.inl hv)
      · exact Or.inr (Or.inr (Or.inl ⟨hv, tr, z, b1, hO _ _ b2⟩))
    · rw [upd_n e, upd_n e]
      refine ⟨fun h => ?_, fun _ => ?_⟩
      · obtain ⟨b0, z, b1, b2⟩ := a1 h
        refine ⟨b0, z, hO _ _ b1, fun j h1 h2 => ?_⟩
        rw [e7]
        by_cases ej : j = q
        · subst ej; rw [upd_s]; exact hk3
        · rw [upd_n ej]; exact b2 j h1 h2
      · rcases a2 e with a2 | a2 | ⟨a2, t, z2, b1, b2⟩ | a2
        · exact Or.inl a2
        · exact Or.inr (Or.inl a2)
        · exact Or.inr (Or.inr (Or.inl ⟨a2, t, z2, b1, hO _ _ b2⟩))
        · exact Or.inr (Or.inr (Or.inr a2))
  · intro p z h
    rcases iR p z h with a | ⟨t, a, b⟩
    · exact Or.inl a
    · exact Or.inr ⟨t, a, hO _ _ b⟩
/-- .. on both sides: it is held to the rules again -/
theorem mendO {n c u o sc lg tk q : Nat} {f fm : Nat → Int32} {g gm : Nat → Nat → Int32} {kx vx : Int32} (h : PR n c u o sc lg tk q f g fm gm) (hq : q < o) (hn3 : g 7 q ≠ 3)
    (hv : kx = 0 ∨ (kx = nI (2 - c) ∧ ∃ tr z, vx = nI tr ∧ ho g o tr z)) :
    PR n c u o sc lg tk n f (ur (ur g 7 (upd (g 7) q kx)) 8 (upd (g 8) q vx)) fm (ur (ur gm 0 (upd (gm 0) (400 * (1 - c) + q) kx)) 1 (upd (gm 1) (400 * (1 - c) + q) vx)) := by
  have h0 := h
  obtain ⟨iS, iU, iH, iO, iR, iG, iL, rS, ra0, ra1, ra2, rc, ro, rr, rl⟩ := h0
  have hn2 := iS.1.2.1
  have hc1 := iS.1.2.2.1
  have hlen : o ≤ n := by
    have := iU.1
    have := iS.1.2.2.2.1
    omega
  refine putO h hq hn3 ?_ (Or.inr hv) (Or.inr rfl) ⟨ra0.mend hn2 hc1 (by omega), ra1.mend hn2 hc1 (by omega), ra2, rc, ro, rr, rl⟩
  rcases hv with hv | ⟨hv, -⟩
  · rw [hv]; decide
  · rw [hv]; exact (nI3_ne hc1).2.1.symm
/-- .. by the class alone -/
theorem offO {n c u o sc lg tk q : Nat} {f fm : Nat → Int32} {g gm : Nat → Nat → Int32} {kx vx : Int32} (h : PR n c u o sc lg tk q f g fm gm) (hq : q < o) (hn3 : g 7 q ≠ 3) (hk3 : kx ≠ 3) :
    PR n c u o sc lg tk q f (ur (ur g 7 (upd (g 7) q kx)) 8 (upd (g 8) q vx)) fm gm := by
  have h0 := h
  obtain ⟨iS, iU, iH, iO, iR, iG, iL, rS, ra0, ra1, ra2, rest⟩ := h0
  exact putO h hq hn3 hk3 (Or.inl rfl) (Or.inl rfl) ⟨ra0.off, ra1.off, ra2, rest⟩
theorem setO_s {n q : Nat} {ad : Nat → Nat} {f : Nat → Int32} {g : Nat → Nat → Int32} {kx vx : Int32} (hq : q < n) (hn : n ≤ 400) : sX1_setCellO n ad f g (nI q) kx vx = some (f, ur (ur g 7 (upd (g 7) q kx)) 8 (upd (g 8) q vx)) := by
  unfold sX1_setCellO
  rw [wt_n hq (by omega), wt_n hq (by omega), nI_clamp (by omega)]
set_option maxHeartbeats 1000000 in
theorem fwd_step {n c u o sc lg tk q t z : Nat} {f fm : Nat → Int32} {g gm : Nat → Nat → Int32} {ad : Nat → Nat} (h : PR n c u o sc lg tk q f g fm gm) (hsc : sc ≤ o) (hq : q < o) (h7 : g 7 q = nI (1 + c)) (h8 : g 8 q = nI t) (ht : hc g u t z) :
    ∃ rr o' f' g' gm', sX2_forward n ad f g (nI q) = some (nI rr, f', g') ∧ sX3_refer fm gm (nI (400 * (1 - c) + q)) (nI t) = some (nI rr, fm, gm') ∧ PR n c u o' sc lg tk n f' g' fm gm' ∧ (∀ k, k ≠ 15 → f' k = f k) ∧ g' 7 q = nI (2 - c) ∧ o ≤ o' ∧ o' + sm (wC g') u = o + sm (wC g) u ∧ sm (wC g) u = rr + sm (wC g') u := by
  have h0 := h
  obtain ⟨⟨⟨hn1, hn2, hc1, hun, htk, hlg⟩, f0, f12, f14, f13, f15, f10, f11⟩, iU, iH, iO, iR, iG, iL, rS, ra0, ra1, ra2, rc, ro, rr, rl⟩ := h0
  have m3 : fm 3 = nI c := rS.2.2.1.trans f12
  have hlen : o ≤ n := by have := iU.1; omega
  have htn : t < n := by have := ht.1; omega
  have hk : (1 : Int32) + nI (1 - c) = nI (2 - c) := by rw [nI_a1, show 1 + (1 - c) = 2 - c by omega]
  have hn3 : g 7 q ≠ 3 := by rw [h7]; exact (nI3_ne hc1).1.symm
  by_cases h6 : g 6 t = -1
  · obtain ⟨g1, gm1, e1, e2, P1, R, hw⟩ := rep_step (ad := ad) h hsc ht h6
    have hc' := R.h4 (u := u).mpr ht
    have h61 : g1 6 t = nI o := by rw [R.2.2.2.1, upd_s]
    obtain ⟨tr, b1, b2⟩ : ∃ tr, g1 6 t = nI tr ∧ ho g1 (o + (z + 1)) tr z := by
      rcases P1.2.2.2.2.1 t z hc' with a | a
      · exact absurd (h61.symm.trans a) (nI_m1 (by omega))
      · exact a
    have P2 := mendO (kx := nI (2 - c)) (vx := nI tr) P1 (by omega) (by rw [(R.lo hq).1]; exact hn3) (Or.inr ⟨rfl, tr, z, rfl, b2⟩)
    refine ⟨z + 1, o + (z + 1), _, _, _, ?_, ?_, P2, fun k hk => upd_n hk, by rw [ur_n (by decide), ur_s, upd_s], by omega, ?_, ?_⟩
    · unfold sX2_forward
      rw [rd_n (by omega) (by omega), h7, f12, nI_a1, if_pos rfl, rd_n (by omega) (by omega), h8, rd_n htn (by omega), if_pos h6, e1, bWi_s]
      unfold sX2_forward_55
      rw [rd_n htn (by omega), b1, show upd f 15 (nI (o + (z + 1))) 14 = f 14 from rfl, f14, hk, setO_s (by omega) hn2, bWv_s]
    · unfold sX3_refer
      rw [e2, bWi_s, oth_s hc1 m3, bR_s, hk, lt_s', wt_n (by omega) (by omega), m3, at_s, bR_s, rd_n (by omega) (by omega), (P1.2.2.2.2.2.2.2.2.2.2.1 t htn).1, b1, wt_n (by omega) (by omega), nI_clamp (by omega)]
    · show _ + sm (wC g1) u = _
      omega
    · show _ = _ + sm (wC g1) u
      exact hw
  · obtain ⟨tr, b1, b2⟩ : ∃ tr, g 6 t = nI tr ∧ ho g o tr z := by
      rcases iR t z ht with a | a
      · exact absurd a h6
      · exact a
    have P2 := mendO (kx := nI (2 - c)) (vx := nI tr) h hq hn3 (Or.inr ⟨rfl, tr, z, rfl, b2⟩)
    refine ⟨0, o, _, _, _, ?_, ?_, P2, fun k _ => rfl, by rw [ur_n (by decide), ur_s, upd_s], Nat.le_refl _, rfl, by show _ = 0 + sm (wC g) u; omega⟩
    · unfold sX2_forward
      rw [rd_n (by omega) (by omega), h7, f12, nI_a1, if_pos rfl, rd_n (by omega) (by omega), h8, rd_n htn (by omega), if_neg h6]
      unfold sX2_forward_55
      rw [rd_n htn (by omega), b1, f14, hk, setO_s (by omega) hn2, bWv_s]
      rfl
    · unfold sX3_refer
      have e0 : sX3_replicate fm gm (nI t) = some (0, fm, gm) := by
        unfold sX3_replicate
        rw [m3, at_s, bR_s, rd_n (by omega) (by omega), (ra2 t htn).1, if_neg h6]
      rw [e0, bWi_s, oth_s hc1 m3, bR_s, hk, lt_s', wt_n (by omega) (by omega), m3, at_s, bR_s, rd_n (by omega) (by omega), (ra2 t htn).1, b1, wt_n (by omega) (by omega), nI_clamp (by omega)]
      rfl
