theorem bR_s {β : Type} {r : Int32} {k : Int32 → Option β} : bR (some r) k = k r := rfl
theorem bWv_s {β : Type} {f : Nat → Int32} {g : Nat → Nat → Int32} {k : (Nat → Int32) → (Nat → Nat → Int32) → Option β} : bWv (some (f, g)) k = k f g := rfl
theorem bWi_s {β : Type} {r : Int32} {f : Nat → Int32} {g : Nat → Nat → Int32} {k : Int32 → (Nat → Int32) → (Nat → Nat → Int32) → Option β} : bWi (some (r, f, g)) k = k r f g := rfl
theorem bFv_s {β : Type} {a : Nat → Nat} {f : Nat → Int32} {g : Nat → Nat → Int32} {k : (Nat → Nat) → (Nat → Int32) → (Nat → Nat → Int32) → Option β} : bFv (some (a, f, g)) k = k a f g := rfl
theorem bFi_s {β : Type} {r : Int32} {a : Nat → Nat} {f : Nat → Int32} {g : Nat → Nat → Int32} {k : Int32 → (Nat → Nat) → (Nat → Int32) → (Nat → Nat → Int32) → Option β} : bFi (some (r, a, f, g)) k = k r a f g := rfl
theorem lt_s' {β : Type} {e : Int32} {k : Int32 → Option β} : lt e k = k e := rfl
theorem oth_s {f : Nat → Int32} {g : Nat → Nat → Int32} {c : Nat} (hc : c ≤ 1) (h : f 3 = nI c) : sX3_other f g = some (nI (1 - c)) := by
  unfold sX3_other
  rw [h, nI_o hc]
theorem at_s (c p : Nat) : sX3_at (nI c) (nI p) = some (nI (400 * c + p)) := by
  unfold sX3_at
  rw [nI_400]
set_option maxHeartbeats 1000000 in
theorem rep_loop {n c q : Nat} (hn : n ≤ 400) (hc1 : c ≤ 1) {p z o : Nat} (hp : p + z < n) (ho1 : o + z < n) {ad : Nat → Nat} {fm : Nat → Int32} (h3 : fm 3 = nI c) : ∀ (m i k : Nat) (f : Nat → Int32) (g gm : Nat → Nat → Int32), m + i = z + 1 → m < k → RAx n c q (gm 0) (g 4) (g 7) → RAx n c q (gm 1) (g 5) (g 8) → RAx n c n (gm 2) (g 6) (g 9) → gm 3 (1 - c) = nI o → f 15 = nI o →
    ∃ g' gm', sX2_replicate_23 k n ad f g (nI p) (nI (z + 1)) (nI o) (nI i) = some (nI (z + 1), upd f 15 (nI (o + (z + 1))), g') ∧ sX3_replicate_49 k fm gm (nI (400 * c + p)) (nI z) (nI (400 * (1 - c) + o)) (nI i) = some (nI (z + 1), fm, gm')
      ∧ (∀ j, g' 7 j = if o + i ≤ j ∧ j ≤ o + z then g 4 (p + (j - o)) else g 7 j) ∧ (∀ j, g' 8 j = if o + i ≤ j ∧ j ≤ o + z then g 5 (p + (j - o)) else g 8 j) ∧ g' 9 = upd (g 9) o (-1) ∧ g' 6 = upd (g 6) p (nI o) ∧ (g' 0 = g 0 ∧ g' 1 = g 1 ∧ g' 2 = g 2 ∧ g' 3 = g 3 ∧ g' 4 = g 4 ∧ g' 5 = g 5)
      ∧ RAx n c q (gm' 0) (g' 4) (g' 7) ∧ RAx n c q (gm' 1) (g' 5) (g' 8) ∧ RAx n c n (gm' 2) (g' 6) (g' 9) ∧ gm' 3 = upd (gm 3) (1 - c) (nI (o + (z + 1))) ∧ (gm' 4 = gm 4 ∧ gm' 5 = gm 5 ∧ gm' 6 = gm 6 ∧ gm' 7 = gm 7) := by
  intro m
  induction m with
  | zero =>
    intro i k f g gm hmi hk r0 r1 r2 hu hf
    obtain ⟨k, rfl⟩ : ∃ k', k = k' + 1 := ⟨k - 1, by omega⟩
    have ei : i = z + 1 := by omega
    subst ei
    refine ⟨ur (ur g 9 (upd (g 9) o (-1))) 6 (upd (g 6) p (nI o)), ur (ur (ur gm 2 (upd (gm 2) (400 * (1 - c) + o) (-1))) 2 (upd (upd (gm 2) (400 * (1 - c) + o) (-1)) (400 * c + p) (nI o))) 3 (upd (gm 3) (1 - c) (nI (o + (z + 1)))), ?_, ?_, ?_⟩
    · rw [sX2_replicate_23, if_pos (nI_le (Nat.le_refl _) (by omega)), wt_n (by omega) (by omega), lt_s', wt_n (by omega) (by omega), hf, nI_add, nI_clamp (by omega), nI_clamp (by omega)]
    · rw [sX3_replicate_49, if_pos (nI_lt (by omega) (by omega)), wt_n (by omega) (by omega), oth_s hc1 h3, bR_s, rd_n (by omega) (by omega), wt_n (by omega) (by omega), oth_s hc1 h3, bR_s, rd_n (by omega) (by omega), lt_s', wt_n (by omega) (by omega), hu, nI_1, nI_add, nI_clamp (by omega), nI_clamp (by omega), nI_clamp (by omega)]
    · refine ⟨fun j => ?_, fun j => ?_, ?_, ?_, ⟨rfl, rfl, rfl, rfl, rfl, rfl⟩, ?_, ?_, ?_, ?_, ⟨rfl, rfl, rfl, rfl⟩⟩
      · rw [if_neg (by omega)]; rfl
      · rw [if_neg (by omega)]; rfl
      · rw [ur_n (by decide), ur_s]
      · rw [ur_s]
      · exact r0
      · exact r1
      · rw [ur_n (by decide), ur_s, ur_s, ur_n (by decide), ur_s]
        exact (r2.updO hn hc1 (by omega)).updC hn hc1 (by omega)
      · rw [ur_s]
  | succ m ih =>
    intro i k f g gm hmi hk r0 r1 r2 hu hf
    obtain ⟨k, rfl⟩ : ∃ k', k = k' + 1 := ⟨k - 1, by omega⟩
    have a0 : gm 0 (400 * c + p + i) = g 4 (p + i) := by rw [Nat.add_assoc]; exact (r0 (p + i) (by omega)).1
    have a1 : gm 1 (400 * c + p + i) = g 5 (p + i) := by rw [Nat.add_assoc]; exact (r1 (p + i) (by omega)).1
    have b0 : RAx n c q (upd (gm 0) (400 * (1 - c) + o + i) (g 4 (p + i))) (g 4) (upd (g 7) (o + i) (g 4 (p + i))) := by rw [Nat.add_assoc]; exact r0.updO hn hc1 (by omega)
    have b1 : RAx n c q (upd (gm 1) (400 * (1 - c) + o + i) (g 5 (p + i))) (g 5) (upd (g 8) (o + i) (g 5 (p + i))) := by rw [Nat.add_assoc]; exact r1.updO hn hc1 (by omega)
    obtain ⟨g', gm', e1, e2, d7, d8, d9, d6, ⟨d0, d1, d2, d3, d4, d5⟩, s0, s1, s2, s3, s4⟩ := ih (i + 1) k f (ur (ur g 7 (upd (g 7) (o + i) (g 4 (p + i)))) 8 (upd (g 8) (o + i) (g 5 (p + i)))) (ur (ur gm 0 (upd (gm 0) (400 * (1 - c) + o + i) (g 4 (p + i)))) 1 (upd (gm 1) (400 * (1 - c) + o + i) (g 5 (p + i)))) (by omega) (by omega) b0 b1 r2 hu hf
    refine ⟨g', gm', ?_, ?_, ?_⟩
    · rw [sX2_replicate_23, if_neg (fun h => absurd ((nI_leI (by omega) (by omega)).mp h) (by omega)), nI_add, nI_add, rd_n (by omega) (by omega), wt_n (by omega) (by omega), rd_n (by omega) (by omega), wt_n (by omega) (by omega), nI_clamp (by omega), nI_1]
      exact e1
    · rw [sX3_replicate_49, if_neg (fun h => absurd ((nI_ltI (by omega) (by omega)).mp h) (by omega)), nI_add, nI_add, rd_n (by omega) (by omega), wt_n (by omega) (by omega), rd_n (by omega) (by omega), wt_n (by omega) (by omega), nI_clamp (by omega), nI_1, a0, a1]
      exact e2
    · refine ⟨fun j => ?_, fun j => ?_, d9, d6, ⟨d0, d1, d2, d3, d4, d5⟩, s0, s1, s2, s3, s4⟩
      · rw [d7]
        by_cases hj : j = o + i
        · subst hj
          rw [if_neg (by omega), if_pos (by omega), ur_n (by decide), ur_s, upd_s, show p + (o + i - o) = p + i by omega]
        · by_cases h1 : o + (i + 1) ≤ j ∧ j ≤ o + z
          · rw [if_pos h1, if_pos (by omega)]; rfl
          · rw [if_neg h1, if_neg (by omega), ur_n (by decide), ur_s, upd_n hj]
      · rw [d8]
        by_cases hj : j = o + i
        · subst hj
          rw [if_neg (by omega), if_pos (by omega), ur_s, upd_s, show p + (o + i - o) = p + i by omega]
        · by_cases h1 : o + (i + 1) ≤ j ∧ j ≤ o + z
          · rw [if_pos h1, if_pos (by omega)]; rfl
          · rw [if_neg h1, if_neg (by omega), ur_s, upd_n hj]
