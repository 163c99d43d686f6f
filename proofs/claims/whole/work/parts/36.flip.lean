def flF (f : Nat → Int32) : Nat → Int32 := upd (upd (upd (upd (upd (upd (swF f) 15 0) 2 0) 3 0) 10 0) 11 0) 4 (f 4 + 1)
def flM (c : Nat) (fm : Nat → Int32) : Nat → Int32 := upd (upd (upd (upd (upd (upd fm 3 (nI (1 - c))) 4 0) 5 0) 6 0) 7 0) 8 (fm 8 + 1)
set_option maxHeartbeats 1000000 in
theorem flip_loop {n c u : Nat} {f fm : Nat → Int32} {ad : Nat → Nat} (hn2 : n ≤ 400) (hc1 : c ≤ 1) (hun : u ≤ n) (m3 : fm 3 = nI c) :
    ∀ (m i k : Nat) (g gm : Nat → Nat → Int32), m + i = 16 → m < k → RAx n c n (gm 2) (g 6) (g 9) → (∀ r, r < 16 → gm 4 r = g 0 r ∧ gm 5 r = g 1 r) → (∀ r, i ≤ r → r < 16 → g 0 r = 0 ∨ (g 0 r = 1 ∧ ∃ t z, g 1 r = nI t ∧ hc g u t z ∧ g 6 t ≠ -1)) →
      ∃ g' gm', sX2_flip_2 k n ad f g (nI i) = some (swA ad, flF f, swG g') ∧ sX3_flip_2 k fm gm (nI i) = some (16, flM c fm, ur gm' 3 (upd (gm' 3) c 0)) ∧ (∀ b, b ≠ 1 → g' b = g b) ∧ (∀ b, b ≠ 5 → gm' b = gm b) ∧ (∀ r, r < 16 → gm' 5 r = g' 1 r) ∧ (∀ r, r < i → g' 1 r = g 1 r) ∧ (∀ r, i ≤ r → r < 16 → g 0 r = 0 ∨ (g 0 r = 1 ∧ ∃ t z, g 1 r = nI t ∧ hc g u t z ∧ g 6 t ≠ -1 ∧ g' 1 r = g 6 t)) := by
  intro m
  induction m with
  | zero =>
    intro i k g gm hmi hk ra2 rr hr
    obtain ⟨k, rfl⟩ : ∃ k', k = k' + 1 := ⟨k - 1, by omega⟩
    have : i = 16 := by omega
    subst this
    refine ⟨g, gm, ?_, ?_, fun _ _ => rfl, fun _ _ => rfl, fun r h => (rr r h).2, fun _ _ => rfl, fun r h1 h2 => absurd h1 (by omega)⟩
    · rw [sX2_flip_2, if_pos (by decide)]
      rfl
    · rw [sX3_flip_2, if_pos (by decide), m3, wt_n (by omega) (by omega), oth_s hc1 m3, bR_s, lt_s', nI_clamp (by omega)]
      rfl
  | succ m ih =>
    intro i k g gm hmi hk ra2 rr hr
    obtain ⟨k, rfl⟩ : ∃ k', k = k' + 1 := ⟨k - 1, by omega⟩
    have hi : i < 16 := by omega
    have hlt : ¬ (16 : Int32) ≤ nI i := fun h => absurd ((nI_leI (a := 16) (by decide) (by omega)).mp h) (by omega)
    obtain ⟨r0, r1⟩ := rr i hi
    rcases hr i (Nat.le_refl _) hi with a | ⟨a, t, z, b1, b2, b3⟩
    · obtain ⟨g', gm', e1, e2, k1, k2, k3, k4, k5⟩ := ih (i + 1) k g (ur gm 5 (upd (gm 5) i (gm 5 i))) (by omega) (by omega) ra2 (fun r h => ⟨(rr r h).1, by
        show upd (gm 5) i (gm 5 i) r = _
        by_cases e : r = i
        · subst e; rw [upd_s]; exact r1
        · rw [upd_n e]; exact (rr r h).2⟩) (fun r h1 h2 => hr r (by omega) h2)
      refine ⟨g', gm', ?_, ?_, k1, fun b hb => (k2 b hb).trans (ur_n hb), k3, fun r h => k4 r (by omega), fun r h1 h2 => ?_⟩
      · rw [sX2_flip_2, if_neg hlt, rd_n hi (by omega), a, if_pos rfl, nI_1]
        exact e1
      · rw [sX3_flip_2, if_neg hlt, rd_n hi (by omega), r0, a, if_pos rfl, rd_n hi (by omega), wt_n hi (by omega), nI_clamp (by omega), nI_1]
        exact e2
      · by_cases e : r = i
        · subst e; exact Or.inl a
        · exact k5 r (by omega) h2
    · have htn : t < n := by have := b2.1; omega
      have h10 : ¬ (1 : Int32) = 0 := by decide
      have q1 : ∀ r, r ≠ i → (ur g 1 (upd (g 1) i (g 6 t))) 1 r = g 1 r := fun r h => by rw [ur_s, upd_n h]
      obtain ⟨g', gm', e1, e2, k1, k2, k3, k4, k5⟩ := ih (i + 1) k (ur g 1 (upd (g 1) i (g 6 t))) (ur gm 5 (upd (gm 5) i (g 6 t))) (by omega) (by omega) ra2 (fun r h => ⟨(rr r h).1, by
        show upd (gm 5) i (g 6 t) r = upd (g 1) i (g 6 t) r
        by_cases e : r = i
        · subst e; rw [upd_s, upd_s]
        · rw [upd_n e, upd_n e]; exact (rr r h).2⟩) (fun r h1 h2 => by
        rcases hr r (by omega) h2 with a | ⟨a, t, z, b1, b2, b3⟩
        · exact Or.inl a
        · exact Or.inr ⟨a, t, z, (q1 r (by omega)).trans b1, b2, b3⟩)
      refine ⟨g', gm', ?_, ?_, fun b hb => (k1 b hb).trans (ur_n hb), fun b hb => (k2 b hb).trans (ur_n hb), k3, fun r h => (k4 r (by omega)).trans (q1 r (by omega)), fun r h1 h2 => ?_⟩
      · rw [sX2_flip_2, if_neg hlt, rd_n hi (by omega), a, if_neg h10, rd_n hi (by omega), b1, rd_n htn (by omega), wt_n hi (by omega), nI_clamp (by omega), nI_1]
        exact e1
      · rw [sX3_flip_2, if_neg hlt, rd_n hi (by omega), r0, a, if_neg h10, rd_n hi (by omega), r1, b1, m3, at_s, bR_s, rd_n (by omega) (by omega), (ra2 t htn).1, wt_n hi (by omega), nI_clamp (by omega), nI_1]
        exact e2
      · by_cases e : r = i
        · subst e
          exact Or.inr ⟨a, t, z, b1, b2, b3, (k4 r (by omega)).trans (by rw [ur_s, upd_s])⟩
        · rcases k5 r (by omega) h2 with a | ⟨a, t, z, c1, c2, c3, c4⟩
          · exact Or.inl a
          · exact Or.inr ⟨a, t, z, (q1 r e).symm.trans c1, c2, c3, c4⟩
/-- nothing is on its way: no collection runs -/
def Idle (u o sc lg tk : Nat) (g : Nat → Nat → Int32) : Prop := o = 0 ∧ sc = 0 ∧ lg = 0 ∧ tk = 0 ∧ ∀ p z, hc g u p z → g 6 p = -1
set_option maxHeartbeats 1000000 in
theorem flip_step {n c u o lg tk : Nat} {f fm : Nat → Int32} {g gm : Nat → Nat → Int32} {ad : Nat → Nat} (h : PR n c u o o lg tk n f g fm gm) (hr : ∀ r, 0 ≤ r → r < 16 → g 0 r = 0 ∨ (g 0 r = 1 ∧ ∃ t z, g 1 r = nI t ∧ hc g u t z ∧ g 6 t ≠ -1)) :
    ∃ g' gm', sX2_flip n ad f g = some (swA ad, flF f, g') ∧ sX3_flip fm gm = some (16, flM c fm, gm') ∧ PR n (1 - c) o 0 0 0 0 n (flF f) g' (flM c fm) gm' ∧ Idle o 0 0 0 0 g' := by
  obtain ⟨⟨⟨hn1, hn2, hc1, hun, htk1, hlg⟩, f0, f12, f14, f13, f15, f10, f11⟩, iU, iH, iO, iR, iG, iL, ⟨s1, s2, s3, s4, s5, s6, s7, s8, s9, s10⟩, ra0, ra1, ra2, rc, ro, rr, rl⟩ := h
  have m3 : fm 3 = nI c := s3.trans f12
  have hlen : o ≤ n := by have := iU.1; omega
  obtain ⟨g1, gm1, e1, e2, k1, k2, k3, -, k5⟩ := flip_loop (f := f) (ad := ad) hn2 hc1 hun m3 16 0 40 g gm (by omega) (by omega) ra2 rr hr
  have q0 : swG g1 0 = g 0 := k1 0 (by decide)
  have q1 : swG g1 1 = g1 1 := rfl
  have q4 : swG g1 4 = g 7 := k1 7 (by decide)
  have q5 : swG g1 5 = g 8 := k1 8 (by decide)
  have q6 : swG g1 6 = g 9 := k1 9 (by decide)
  have q7 : swG g1 7 = g 4 := k1 4 (by decide)
  have q8 : swG g1 8 = g 5 := k1 5 (by decide)
  have q9 : swG g1 9 = g 6 := k1 6 (by decide)
  have hh : ∀ p z, ho g o p z ↔ hc (swG g1) o p z := fun p z => by unfold ho hc; rw [q4, q5]
  have hidle : ∀ p z, hc (swG g1) o p z → swG g1 6 p = -1 := fun p z hp => by
    rw [q6]
    exact ((iO p (by have := hp.1; omega)).1 (by rw [← q4]; exact hp.2.1)).1
  refine ⟨swG g1, _, e1, e2, ⟨⟨⟨hn1, hn2, by omega, hlen, Nat.le_refl _, by omega⟩, f0, f14, ?_, f15, rfl, rfl, rfl⟩, ⟨?_, Nat.le_refl _⟩, ?_, fun p hp => absurd hp (by omega), fun p z hp => Or.inl (hidle p z hp), ?_, fun i hi => absurd hi (by omega), ⟨s1, s2, ?_, rfl, rfl, rfl, rfl, ?_, s9, s10⟩, ?_, ?_, ?_, ?_, ?_, ?_, fun i hi => absurd hi (by omega)⟩, rfl, rfl, rfl, rfl, hidle⟩
  · show f 12 = _
    rw [f12, show 1 - (1 - c) = c by omega]
  · rw [Nat.zero_add]
    refine Nat.le_trans (sm_le (v := wO g) (fun p _ => ?_)) iU.2
    unfold wC wO
    rw [q4, q5, q6]
    by_cases h3 : g 7 p = 3
    · rw [if_pos h3]
      split
      · exact Nat.le_refl _
      · exact Nat.zero_le _
    · rw [if_neg (fun h => h3 h.1)]
      exact Nat.zero_le _
  · intro p hp
    obtain ⟨a1, a2⟩ := iO p hp
    rw [q4, q5]
    refine ⟨fun h => ?_, ?_⟩
    · obtain ⟨-, z, b1, b2⟩ := a1 h
      exact ⟨z, (hh p z).mp b1, b2⟩
    · rcases a2 (by omega) with a2 | a2 | ⟨a2, t, z, b1, b2⟩ | ⟨a2, -⟩
      · exact Or.inl a2
      · exact Or.inr (Or.inl a2)
      · exact Or.inr (Or.inr ⟨by rw [a2, show 2 - c = 1 + (1 - c) by omega], t, z, b1, (hh t z).mp b2⟩)
      · omega
  · intro r hr16
    rw [q0, q1]
    rcases k5 r (Nat.zero_le _) hr16 with a | ⟨a, t, z, b1, b2, b3, b4⟩
    · exact Or.inl a
    · rcases iR t z b2 with c1 | ⟨tr, c1, c2⟩
      · exact absurd c1 b3
      · exact Or.inr ⟨a, tr, z, b4.trans c1, (hh tr z).mp c2⟩
  · show nI (1 - c) = f 14
    exact f14.symm
  · show fm 8 + 1 = f 4 + 1
    rw [s8]
  · rw [q4, q7, ur_n (by decide), k2 0 (by decide)]
    exact ra0.swap hc1
  · rw [q5, q8, ur_n (by decide), k2 1 (by decide)]
    exact ra1.swap hc1
  · rw [q6, q9, ur_n (by decide), k2 2 (by decide)]
    exact ra2.swap hc1
  · rw [ur_s, upd_n (by omega), k2 3 (by decide)]
    exact ro
  · rw [ur_s, show 1 - (1 - c) = c by omega, upd_s]
    rfl
  · intro r hr16
    rw [q0, q1, ur_n (by decide), ur_n (by decide), k2 4 (by decide)]
    exact ⟨(rr r hr16).1, k3 r hr16⟩
