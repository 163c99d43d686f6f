def mx (x y : Int32) : Int32 := if x < y then y else x
def wfin (f : Nat → Int32) (v : Int32) : Nat → Int32 := upd (upd (upd f 7 (f 7 + v)) 8 (f 8 + v)) 9 (mx (f 9) (f 8 + v))
theorem pot_le {n c u o sc lg tk q : Nat} {f fm : Nat → Int32} {g gm : Nat → Nat → Int32} (h : PR n c u o sc lg tk q f g fm gm) : pot u o sc lg tk g ≤ 1328 := by
  have h1 := h.2.1.1
  obtain ⟨-, h2, -, h3, -, h4⟩ := h.1.1
  unfold pot
  omega
set_option maxHeartbeats 1000000 in
theorem work_loop {n : Nat} {v1 vm : Int32} (hv : (v1 = vm ∧ ¬ vm < 0) ∨ (v1 = 1000000 ∧ vm = -1)) : ∀ (k d st c u o sc lg tk : Nat) (ad : Nat → Nat) (f : Nat → Int32) (g : Nat → Nat → Int32) (fm : Nat → Int32) (gm : Nat → Nat → Int32), ST n c u o sc lg tk f g fm gm → st ≤ d → d ≤ 5000 → (f 2 = 1 → d + pot u o sc lg tk g ≤ 5000 ∧ pot u o sc lg tk g + 2 ≤ k) → 1 ≤ k →
    ∃ e ad' f' g' fm' gm' c' u' o' sc' lg' tk', sX2_work_4 k n ad f g v1 (nI d) (nI st) = some (ad', wfin f' (nI (d + e)), g') ∧ sX3_work_2 k fm gm vm (nI d) = some (nI (d + e), fm', gm') ∧ ST n c' u' o' sc' lg' tk' f' g' fm' gm' ∧ KF f f' ∧ KM fm fm' ∧ fm' 10 = fm 10 + nI e ∧ lg' ≤ lg ∧ (vm = -1 → f' 2 = 0) ∧ d + e ≤ 5000 := by
  intro k
  induction k with
  | zero => intro d st c u o sc lg tk ad f g fm gm _ _ _ _ hk; exact absurd hk (by omega)
  | succ k ih =>
    intro d st c u o sc lg tk ad f g fm gm h hst hd hrun _
    have hadd0 : fm 10 = fm 10 + nI 0 := by rw [show nI 0 = 0 from rfl, Int32.add_zero]
    have h4 : fm 4 = f 2 := h.1.2.2.2.2.2.2.2.1.2.2.2.1
    rcases h.2.2.2 with h2 | ⟨h2, hid⟩
    · obtain ⟨hd1, hd2⟩ := hrun h2
      have n2 : ¬ f 2 = 0 := by rw [h2]; decide
      have n4 : ¬ fm 4 = 0 := by rw [h4]; exact n2
      by_cases hlim : v1 ≤ nI d
      · rcases hv with ⟨e1, hvm⟩ | ⟨e1, -⟩
        · refine ⟨0, ad, f, g, fm, gm, c, u, o, sc, lg, tk, ?_, ?_, h, ⟨rfl, rfl, rfl, rfl, rfl, rfl⟩, ⟨rfl, rfl, rfl⟩, hadd0, Nat.le_refl _, fun e => absurd (show vm < 0 by rw [e]; decide) hvm, hd⟩
          · rw [sX2_work_4, if_neg n2, if_pos hlim]
            rfl
          · rw [sX3_work_2, if_neg n4, if_neg hvm, if_pos (e1 ▸ hlim)]
            rfl
        · rw [e1] at hlim
          exact absurd ((nI_leI (a := 1000000) (by decide) (by omega)).mp hlim) (by omega)
      · obtain ⟨rr, ad1, f1, g1, fm1, gm1, c1, u1, o1, sc1, lg1, tk1, e1, e2, S1, kf, km, k10, k1, kl, kp, kr⟩ := step_step (ad := ad) h h2
        obtain ⟨e, ad', f', g', fm', gm', c', u', o', sc', lg', tk', q1, q2, S2, kf2, km2, k102, kl2, kv, kd⟩ := ih (d + rr) (st + 1) c1 u1 o1 sc1 lg1 tk1 ad1 f1 g1 fm1 gm1 S1 (by omega) (by omega) (fun hr => by
          have := kr hr
          omega) (by unfold pot at hd2; omega)
        have hlt : ¬ (1000000 : Int32) ≤ nI st := fun hq => absurd ((nI_leI (a := 1000000) (by decide) (by omega)).mp hq) (by omega)
        refine ⟨rr + e, ad', f', g', fm', gm', c', u', o', sc', lg', tk', ?_, ?_, S2, kf.trans kf2, km.trans km2, ?_, by omega, kv, by omega⟩
        · rw [sX2_work_4, if_neg n2, if_neg hlim, if_neg hlt, e1, bFi_s, nI_add, nI_1, q1, Nat.add_assoc]
        · rw [sX3_work_2, if_neg n4]
          rcases hv with ⟨ev, hvm⟩ | ⟨-, hvm⟩
          · rw [if_neg hvm, if_neg (ev ▸ hlim), e2, bWi_s, nI_add, q2, Nat.add_assoc]
          · rw [if_pos (by rw [hvm]; decide), e2, bWi_s, nI_add, q2, Nat.add_assoc]
        · rw [k102, k10, Int32.add_assoc, nI_add]
    · refine ⟨0, ad, f, g, fm, gm, c, u, o, sc, lg, tk, ?_, ?_, h, ⟨rfl, rfl, rfl, rfl, rfl, rfl⟩, ⟨rfl, rfl, rfl⟩, hadd0, Nat.le_refl _, fun _ => h2, hd⟩
      · rw [sX2_work_4, if_pos h2]
        rfl
      · rw [sX3_work_2, if_pos (h4.trans h2)]
        rfl
/-- the units of a call so far: a; the most of the calls before: M -/
def OP (M : Int32) (a : Nat) (f fm : Nat → Int32) : Prop := f 8 = nI a ∧ f 9 = mx M (nI a) ∧ fm 11 = M ∧ fm 10 = f 7 ∧ fm 10 = fm 13 + nI a
theorem mx_up {M : Int32} {a b : Nat} (h : a ≤ b) (hb : b < 2 ^ 31) : mx (mx M (nI a)) (nI b) = mx M (nI b) := by
  unfold mx
  have hab : nI a ≤ nI b := nI_le h hb
  by_cases h1 : M < nI a
  · rw [if_pos h1]
    have h2 : M < nI b := by
      rw [Int32.lt_iff_toInt_lt] at h1 ⊢
      rw [Int32.le_iff_toInt_le] at hab
      omega
    rw [if_pos h2]
    by_cases h3 : nI a < nI b
    · rw [if_pos h3]
    · rw [if_neg h3]
      rw [Int32.lt_iff_toInt_lt] at h3
      rw [Int32.le_iff_toInt_le] at hab
      exact Int32.toInt_inj.mp (by omega)
  · rw [if_neg h1]
theorem work_op {n c u o sc lg tk : Nat} {f fm : Nat → Int32} {g gm : Nat → Nat → Int32} {ad : Nat → Nat} {v1 vm M : Int32} {a : Nat} (hv : (v1 = vm ∧ ¬ vm < 0) ∨ (v1 = 1000000 ∧ vm = -1)) (h : ST n c u o sc lg tk f g fm gm) (hO : OP M a f fm) (ha : a ≤ 100000) :
    ∃ e ad' f' g' fm' gm' c' u' o' sc' lg' tk', sX2_work n ad f g v1 = some (ad', f', g') ∧ sX3_work fm gm vm = some (nI e, fm', gm') ∧ ST n c' u' o' sc' lg' tk' f' g' fm' gm' ∧ OP M (a + e) f' fm' ∧ (f' 1 = f 1 ∧ fm' 0 = fm 0 ∧ lg' ≤ lg) ∧ (vm = -1 → f' 2 = 0) ∧ e ≤ 5000 := by
  have hp := pot_le h.1
  obtain ⟨e, ad', f', g', fm', gm', c', u', o', sc', lg', tk', q1, q2, S2, kf, km, k10, kl, kv, kd⟩ := work_loop hv wF 0 0 c u o sc lg tk ad f g fm gm h (Nat.le_refl _) (by omega) (fun _ => ⟨by omega, by show _ ≤ 100000; omega⟩) (by decide)
  rw [Nat.zero_add] at q1 q2 kd
  obtain ⟨o8, o9, o11, o10, o13⟩ := hO
  refine ⟨e, ad', wfin f' (nI e), g', fm', gm', c', u', o', sc', lg', tk', q1, q2, S2, ⟨?_, ?_, ?_, ?_, ?_⟩, ⟨kf.1, km.1, kl⟩, kv, kd⟩
  · show f' 8 + nI e = _
    rw [kf.2.2.2.2.1, o8, nI_add]
  · show mx (f' 9) (f' 8 + nI e) = _
    rw [kf.2.2.2.2.1, kf.2.2.2.2.2, o8, o9, nI_add, mx_up (by omega) (by omega)]
  · exact km.2.1.trans o11
  · show fm' 10 = f' 7 + nI e
    rw [k10, kf.2.2.2.1, o10]
  · rw [k10, km.2.2, o13, Int32.add_assoc, nI_add]
