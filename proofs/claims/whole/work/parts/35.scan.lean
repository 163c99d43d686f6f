theorem PR.sc1 {n c u o sc lg tk q : Nat} {f fm : Nat → Int32} {g gm : Nat → Nat → Int32} {v : Int32} (h : PR n c u o sc lg tk q f g fm gm) : PR n c u o sc lg tk q (upd f 3 v) g (upd fm 5 v) gm := by
  obtain ⟨⟨hh, f0, f12, f14, f13, f15, f10, f11⟩, iU, iH, iO, iR, iG, iL, ⟨s1, s2, s3, s4, s5, s6, s7, s8, s9, s10⟩, rG⟩ := h
  exact ⟨⟨hh, f0, f12, f14, f13, f15, f10, f11⟩, iU, iH, iO, iR, iG, iL, ⟨s1, s2, s3, s4, rfl, s6, s7, s8, s9, s10⟩, rG⟩
theorem PR.bump {n c u o sc lg tk : Nat} {f fm : Nat → Int32} {g gm : Nat → Nat → Int32} (h : PR n c u o sc lg tk n f g fm gm) (h7 : g 7 sc ≠ nI (1 + c)) : PR n c u o (sc + 1) lg tk n f g fm gm := by
  obtain ⟨iS, iU, iH, iO, rest⟩ := h
  refine ⟨iS, iU, iH, fun p hp => ⟨(iO p hp).1, fun hq => ?_⟩, rest⟩
  rcases (iO p hp).2 hq with a | a | a | ⟨a0, a1, a2⟩
  · exact Or.inl a
  · exact Or.inr (Or.inl a)
  · exact Or.inr (Or.inr (Or.inl a))
  · refine Or.inr (Or.inr (Or.inr ⟨?_, a1, a2⟩))
    have : p ≠ sc := fun e => h7 (by rw [← e]; exact a1)
    omega
set_option maxHeartbeats 1000000 in
theorem scan_step {n c u o sc lg tk : Nat} {f fm : Nat → Int32} {g gm : Nat → Nat → Int32} {ad : Nat → Nat} (h : PR n c u o sc lg tk n f g fm gm) (hsc : sc < o) (h3 : f 3 = nI sc) :
    ∃ r o' f' g' fm' gm', sX2_forward n ad (upd f 3 (nI (sc + 1))) g (nI sc) = some (nI r, f', g') ∧ sX3_look fm gm = some (nI (1 + r), fm', gm') ∧ PR n c u o' (sc + 1) lg tk n f' g' fm' gm' ∧ f' 3 = nI (sc + 1) ∧ (∀ k, k ≠ 3 → k ≠ 15 → f' k = f k) ∧ (∀ k, k ≠ 5 → fm' k = fm k) ∧ sc + 1 ≤ o' ∧ o' + sm (wC g') u = o + sm (wC g) u ∧ sm (wC g) u = r + sm (wC g') u := by
  have P1 := h.sc1 (v := nI (sc + 1))
  obtain ⟨⟨⟨hn1, hn2, hc1, hun, htk1, hlg⟩, f0, f12, f14, f13, f15, f10, f11⟩, iU, iH, iO, iR, iG, iL, rS, ra0, ra1, ra2, rc, ro, rr, rl⟩ := h
  have m3 : fm 3 = nI c := rS.2.2.1.trans f12
  have m5 : fm 5 = nI sc := rS.2.2.2.2.1.trans h3
  have hlen : o ≤ n := by have := iU.1; omega
  have a0 : gm 0 (400 * (1 - c) + sc) = g 7 sc := (ra0 sc (by omega)).2 (by omega)
  have a1 : gm 1 (400 * (1 - c) + sc) = g 8 sc := (ra1 sc (by omega)).2 (by omega)
  by_cases h7 : g 7 sc = nI (1 + c)
  · obtain ⟨t, z, h8, ht⟩ : ∃ t z, g 8 sc = nI t ∧ hc g u t z := by
      rcases (iO sc hsc).2 (by omega) with a | a | ⟨a, -⟩ | ⟨-, -, a⟩
      · exact absurd (a.symm.trans h7) (nI3_ne hc1).1
      · exact absurd (a.symm.trans h7) (nI3_ne hc1).2.2.1
      · exact absurd (h7.symm.trans a) (nI3_ne hc1).2.2.2.2
      · exact a
    obtain ⟨r, o', f', g', gm', e1, e2, P3, k1, k2, k3, k4, k5⟩ := fwd_step (ad := ad) (t := t) (z := z) (P1.ex (q := sc)) (by omega) hsc h7 h8 ht
    have P4 := P3.bump (by rw [k2]; exact (nI3_ne hc1).2.2.2.2.symm)
    refine ⟨r, o', f', g', _, gm', e1, ?_, P4, (k1 3 (by decide)).trans upd_s, fun k h1 h2 => (k1 k h2).trans (upd_n h1), fun k h1 => upd_n h1, by omega, k4, k5⟩
    · unfold sX3_look
      rw [oth_s hc1 m3, bR_s, m5, at_s, bR_s, lt_s', rd_n (by omega) (by omega), a0, h7, m3, nI_a1, if_pos rfl, rd_n (by omega) (by omega), a1, h8, nI_1, e2, bWi_s, nI_a1]
  · refine ⟨0, o, _, g, _, gm, ?_, ?_, P1.bump h7, upd_s, fun k h1 h2 => upd_n h1, fun k h1 => upd_n h1, by omega, rfl, by omega⟩
    · unfold sX2_forward
      rw [rd_n (by omega) (by omega), show upd f 3 (nI (sc + 1)) 12 = f 12 from rfl, f12, nI_a1, if_neg h7]
      rfl
    · unfold sX3_look
      rw [oth_s hc1 m3, bR_s, m5, at_s, bR_s, lt_s', rd_n (by omega) (by omega), a0, m3, nI_a1, if_neg h7, nI_1]
      rfl
theorem root_loop {n c u lg q : Nat} {f fm : Nat → Int32} {g gm : Nat → Nat → Int32} {ad : Nat → Nat} (hn2 : n ≤ 400) (hc1 : c ≤ 1) (hun : u ≤ n) (m3 : fm 3 = nI c) (iG : IG u g) (ra2 : RAx n c q (gm 2) (g 6) (g 9)) (rr : ∀ r, r < 16 → gm 4 r = g 0 r ∧ gm 5 r = g 1 r) :
    ∀ (m i k : Nat), m + i = 16 → m < k →
      (∃ r t z, r < 16 ∧ sX2_rootWithoutReplica_2 k n ad f g (nI i) = some (nI r) ∧ sX3_nextRoot_2 k fm gm (nI i) = some (nI r) ∧ g 1 r = nI t ∧ hc g u t z ∧ g 6 t = -1) ∨
      (sX2_rootWithoutReplica_2 k n ad f g (nI i) = some (-1) ∧ sX3_nextRoot_2 k fm gm (nI i) = some (nI 16) ∧ ∀ r, i ≤ r → r < 16 → g 0 r = 0 ∨ (g 0 r = 1 ∧ ∃ t z, g 1 r = nI t ∧ hc g u t z ∧ g 6 t ≠ -1)) := by
  intro m
  induction m with
  | zero =>
    intro i k hmi hk
    obtain ⟨k, rfl⟩ : ∃ k', k = k' + 1 := ⟨k - 1, by omega⟩
    have : i = 16 := by omega
    subst this
    refine Or.inr ⟨?_, ?_, fun r h1 h2 => absurd h1 (by omega)⟩
    · rw [sX2_rootWithoutReplica_2, if_pos (by decide)]
    · rw [sX3_nextRoot_2, if_pos (by decide)]
  | succ m ih =>
    intro i k hmi hk
    obtain ⟨k, rfl⟩ : ∃ k', k = k' + 1 := ⟨k - 1, by omega⟩
    have hi : i < 16 := by omega
    have hlt : ¬ (16 : Int32) ≤ nI i := fun h => absurd ((nI_leI (a := 16) (by decide) (by omega)).mp h) (by omega)
    obtain ⟨r0, r1⟩ := rr i hi
    have next := ih (i + 1) k (by omega) (by omega)
    rcases iG i hi with a | ⟨a, t, z, b1, b2⟩
    · have E1 : sX2_rootWithoutReplica_2 (k + 1) n ad f g (nI i) = sX2_rootWithoutReplica_2 k n ad f g (nI (i + 1)) := by rw [sX2_rootWithoutReplica_2, if_neg hlt, rd_n hi (by omega), a, if_pos rfl, nI_1]
      have E2 : sX3_nextRoot_2 (k + 1) fm gm (nI i) = sX3_nextRoot_2 k fm gm (nI (i + 1)) := by rw [sX3_nextRoot_2, if_neg hlt, rd_n hi (by omega), r0, a, if_pos rfl, nI_1]
      rw [E1, E2]
      rcases next with n1 | ⟨n1, n2, n3⟩
      · exact Or.inl n1
      · refine Or.inr ⟨n1, n2, fun r h1 h2 => ?_⟩
        by_cases e : r = i
        · subst e; exact Or.inl a
        · exact n3 r (by omega) h2
    · have htn : t < n := by have := b2.1; omega
      have h10 : ¬ (1 : Int32) = 0 := by decide
      have E1 : sX2_rootWithoutReplica_2 (k + 1) n ad f g (nI i) = if g 6 t = -1 then some (nI i) else sX2_rootWithoutReplica_2 k n ad f g (nI (i + 1)) := by rw [sX2_rootWithoutReplica_2, if_neg hlt, rd_n hi (by omega), a, if_neg h10, rd_n hi (by omega), b1, rd_n htn (by omega), nI_1]
      have E2 : sX3_nextRoot_2 (k + 1) fm gm (nI i) = if g 6 t = -1 then some (nI i) else sX3_nextRoot_2 k fm gm (nI (i + 1)) := by rw [sX3_nextRoot_2, if_neg hlt, rd_n hi (by omega), r0, a, if_neg h10, rd_n hi (by omega), r0, a, if_neg h10, rd_n hi (by omega), r1, b1, m3, at_s, bR_s, rd_n (by omega) (by omega), (ra2 t htn).1, nI_1]
      rw [E1, E2]
      by_cases h6 : g 6 t = -1
      · rw [if_pos h6, if_pos h6]
        exact Or.inl ⟨i, t, z, hi, rfl, rfl, b1, b2, h6⟩
      · rw [if_neg h6, if_neg h6]
        rcases next with n1 | ⟨n1, n2, n3⟩
        · exact Or.inl n1
        · refine Or.inr ⟨n1, n2, fun r h1 h2 => ?_⟩
          by_cases e : r = i
          · subst e; exact Or.inr ⟨a, t, z, b1, b2, h6⟩
          · exact n3 r (by omega) h2
