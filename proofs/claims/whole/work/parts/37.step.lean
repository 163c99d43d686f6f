def KF (f f' : Nat → Int32) : Prop := f' 1 = f 1 ∧ f' 5 = f 5 ∧ f' 6 = f 6 ∧ f' 7 = f 7 ∧ f' 8 = f 8 ∧ f' 9 = f 9
def KM (fm fm' : Nat → Int32) : Prop := fm' 0 = fm 0 ∧ fm' 11 = fm 11 ∧ fm' 13 = fm 13
theorem KF.trans {a b d : Nat → Int32} (h : KF a b) (h' : KF b d) : KF a d := ⟨h'.1.trans h.1, h'.2.1.trans h.2.1, h'.2.2.1.trans h.2.2.1, h'.2.2.2.1.trans h.2.2.2.1, h'.2.2.2.2.1.trans h.2.2.2.2.1, h'.2.2.2.2.2.trans h.2.2.2.2.2⟩
theorem KM.trans {a b d : Nat → Int32} (h : KM a b) (h' : KM b d) : KM a d := ⟨h'.1.trans h.1, h'.2.1.trans h.2.1, h'.2.2.trans h.2.2⟩
def pot (u o sc lg tk : Nat) (g : Nat → Nat → Int32) : Nat := (lg - tk) + (o + sm (wC g) u - sc) + sm (wC g) u + 16
/-- the pair between two steps -/
def ST (n c u o sc lg tk : Nat) (f : Nat → Int32) (g : Nat → Nat → Int32) (fm : Nat → Int32) (gm : Nat → Nat → Int32) : Prop := PR n c u o sc lg tk n f g fm gm ∧ f 3 = nI sc ∧ sc ≤ o ∧ (f 2 = 1 ∨ (f 2 = 0 ∧ Idle u o sc lg tk g))
theorem PR.m {n c u o sc lg tk q : Nat} {f fm : Nat → Int32} {g gm : Nat → Nat → Int32} {v : Int32} (h : PR n c u o sc lg tk q f g fm gm) : PR n c u o sc lg tk q f g (upd fm 10 v) gm := h
set_option maxHeartbeats 1000000 in
theorem step_step {n c u o sc lg tk : Nat} {f fm : Nat → Int32} {g gm : Nat → Nat → Int32} {ad : Nat → Nat} (h : ST n c u o sc lg tk f g fm gm) (h2 : f 2 = 1) :
    ∃ rr ad' f' g' fm' gm' c' u' o' sc' lg' tk', sX2_step n ad f g = some (nI rr, ad', f', g') ∧ sX3_step fm gm = some (nI rr, fm', gm') ∧ ST n c' u' o' sc' lg' tk' f' g' fm' gm' ∧ KF f f' ∧ KM fm fm' ∧ fm' 10 = fm 10 + nI rr ∧ 1 ≤ rr ∧ lg' ≤ lg ∧ rr ≤ pot u o sc lg tk g ∧ (f' 2 = 1 → pot u' o' sc' lg' tk' g' + rr = pot u o sc lg tk g) := by
  obtain ⟨P, h3, hsc, -⟩ := h
  have P0 := P
  obtain ⟨⟨⟨hn1, hn2, hc1, hun, htk1, hlg⟩, f0, f12, f14, f13, f15, f10, f11⟩, iU, iH, iO, iR, iG, iL, ⟨s1, s2, s3, s4, s5, s6, s7, s8, s9, s10⟩, ra0, ra1, ra2, rc, ro, rr, rl⟩ := P0
  have m3 : fm 3 = nI c := s3.trans f12
  have hlen : o ≤ n := by have := iU.1; omega
  have hU1 := iU.1
  by_cases htl : lg ≤ tk
  · have c1 : f 10 ≤ f 11 := by rw [f10, f11]; exact nI_le htl (by omega)
    have d1 : fm 6 ≤ fm 7 := by rw [s6, s7]; exact c1
    by_cases hos : o ≤ sc
    · have c2 : f 15 ≤ f 3 := by rw [f15, h3]; exact nI_le hos (by omega)
      have d2 : gm 3 (1 - c) ≤ fm 5 := by rw [ro, s5]; exact c2
      have eo : sc = o := by omega
      subst eo
      rcases root_loop (f := f) (ad := ad) hn2 hc1 hun m3 iG ra2 rr (lg := 0) 16 0 40 (by omega) (by omega) with ⟨r, t, z, hr, e1, e2, b1, b2, b3⟩ | ⟨e1, e2, e3⟩
      · obtain ⟨g', gm', q1, q2, P1, R, hw⟩ := rep_step (ad := ad) P (Nat.le_refl _) b2 b3
        have n1 : sX3_nextRoot fm gm = some (nI r) := e2
        have hlt : ¬ (16 : Int32) ≤ nI r := fun h => absurd ((nI_leI (a := 16) (by decide) (by omega)).mp h) (by omega)
        refine ⟨z + 1, ad, _, g', upd fm 10 (fm 10 + nI (z + 1)), gm', c, u, _, sc, lg, tk, ?_, ?_, ⟨P1.m, h3, by omega, Or.inl h2⟩, ⟨rfl, rfl, rfl, rfl, rfl, rfl⟩, ⟨rfl, rfl, rfl⟩, upd_s, by omega, Nat.le_refl _, by unfold pot; omega, fun _ => by unfold pot; omega⟩
        · unfold sX2_step
          rw [if_pos c1, if_pos c2, show sX2_rootWithoutReplica n ad f g = some (nI r) from e1, bR_s, if_neg (nI_m1 (by omega)), rd_n hr (by omega), b1, q1, bWi_s]
        · unfold sX3_step
          rw [if_pos d1, oth_s hc1 m3, bR_s, rd_n (by omega) (by omega), if_pos d2, n1, bR_s, if_neg hlt, bR_s, rd_n hr (by omega), (rr r hr).2, b1, q2, bWi_s]
          rfl
      · obtain ⟨g', gm', q1, q2, P1, hid⟩ := flip_step (ad := ad) P e3
        refine ⟨16, swA ad, flF f, g', upd (flM c fm) 10 (flM c fm 10 + 16), gm', 1 - c, sc, 0, 0, 0, 0, ?_, ?_, ⟨P1.m, rfl, Nat.le_refl _, Or.inr ⟨rfl, hid⟩⟩, ⟨rfl, rfl, rfl, rfl, rfl, rfl⟩, ⟨rfl, rfl, rfl⟩, upd_s, by omega, Nat.zero_le _, by unfold pot; omega, fun h => absurd h (by show ¬ (0 : Int32) = 1; decide)⟩
        · unfold sX2_step
          rw [if_pos c1, if_pos c2, show sX2_rootWithoutReplica n ad f g = some (-1) from e1, bR_s, if_pos rfl, q1, bFv_s]
          rfl
        · unfold sX3_step
          rw [if_pos d1, oth_s hc1 m3, bR_s, rd_n (by omega) (by omega), if_pos d2, show sX3_nextRoot fm gm = some (nI 16) from e2, bR_s, if_pos (by decide), q2, bWi_s]
          rfl
    · have c2 : ¬ f 15 ≤ f 3 := by rw [f15, h3]; exact fun h => hos ((nI_leI (by omega) (by omega)).mp h)
      have d2 : ¬ gm 3 (1 - c) ≤ fm 5 := by rw [ro, s5]; exact c2
      obtain ⟨rx, o', f', g', fm', gm', q1, q2, P1, k3, kf, km, k5, k6, k7⟩ := scan_step (ad := ad) P (by omega) h3
      refine ⟨1 + rx, ad, f', g', upd fm' 10 (fm' 10 + nI (1 + rx)), gm', c, u, o', sc + 1, lg, tk, ?_, ?_, ⟨P1.m, k3, k5, Or.inl ((kf 2 (by decide) (by decide)).trans h2)⟩, ⟨kf 1 (by decide) (by decide), kf 5 (by decide) (by decide), kf 6 (by decide) (by decide), kf 7 (by decide) (by decide), kf 8 (by decide) (by decide), kf 9 (by decide) (by decide)⟩, ⟨km 0 (by decide), km 11 (by decide), km 13 (by decide)⟩, ?_, ?_, Nat.le_refl _, ?_, fun _ => ?_⟩
      · unfold sX2_step
        rw [if_pos c1, if_neg c2, lt_s', h3, nI_1, nI_s1, q1, bWi_s, nI_a1]
      · unfold sX3_step
        rw [if_pos d1, oth_s hc1 m3, bR_s, rd_n (by omega) (by omega), if_neg d2, q2, bWi_s]
        rfl
      · rw [upd_s, km 10 (by decide)]
      · omega
      · unfold pot; omega
      · unfold pot; omega
  · have c1 : ¬ f 10 ≤ f 11 := by rw [f10, f11]; exact fun h => htl ((nI_leI (by omega) (by omega)).mp h)
    have d1 : ¬ fm 6 ≤ fm 7 := by rw [s6, s7]; exact c1
    obtain ⟨rx, o', f', g', fm', gm', q1, q2, P1, kf, km, k5, k6, k7⟩ := take_step (ad := ad) P hsc (by omega)
    refine ⟨rx, ad, f', g', upd fm' 10 (fm' 10 + nI rx), gm', c, u, o', sc, lg, tk + 1, ?_, ?_, ⟨P1.m, (kf 3 (by decide) (by decide)).trans h3, by omega, Or.inl ((kf 2 (by decide) (by decide)).trans h2)⟩, ⟨kf 1 (by decide) (by decide), kf 5 (by decide) (by decide), kf 6 (by decide) (by decide), kf 7 (by decide) (by decide), kf 8 (by decide) (by decide), kf 9 (by decide) (by decide)⟩, ⟨km 0 (by decide), km 11 (by decide), km 13 (by decide)⟩, ?_, ?_, Nat.le_refl _, ?_, fun _ => ?_⟩
    · unfold sX2_step
      rw [if_neg c1, q1, bWi_s]
    · unfold sX3_step
      rw [if_neg d1, q2, bWi_s]
      rfl
    · rw [upd_s, km 10 (by decide)]
    · have : sm (wC g') u ≤ sm (wC g) u := by omega
      omega
    · unfold pot; omega
    · unfold pot; omega
