/-! ===== the pure part: numbers, sums, arrays side by side ===== -/
theorem rd_n {β : Type} {f : Nat → Int32} {n p : Nat} {k : Int32 → Option β} (h : p < n) (hn : n ≤ 5000) : rd f n (nI p) k = k (f p) := by
  have e := nI_toInt (show p < 2 ^ 31 by omega)
  unfold rd
  rw [if_pos ⟨by rw [e]; omega, by rw [e]; omega⟩, nI_clamp (by omega)]
theorem wt_n {β : Type} {n p : Nat} {k : Option β} (h : p < n) (hn : n ≤ 5000) : wt n (nI p) k = k := by
  have e := nI_toInt (show p < 2 ^ 31 by omega)
  unfold wt
  rw [if_pos ⟨by rw [e]; omega, by rw [e]; omega⟩]
theorem nI_inj {a b : Nat} (ha : a < 2 ^ 31) (hb : b < 2 ^ 31) (h : nI a = nI b) : a = b := (nI_eq ha hb).mp h
theorem nI_m1 {a : Nat} (ha : a < 2 ^ 31) : ¬ nI a = -1 := by
  intro h
  have e := nI_toInt ha
  rw [h] at e
  have : (-1 : Int32).toInt = -1 := by decide
  omega
theorem nI_a1 (a : Nat) : 1 + nI a = nI (1 + a) := by rw [show (1 : Int32) = nI 1 from rfl, nI_add]
theorem nI_s1 (a : Nat) : nI (a + 1) - 1 = nI a := nI_pred a
theorem nI_o {c : Nat} (h : c ≤ 1) : (1 : Int32) - nI c = nI (1 - c) := by
  rcases Nat.le_one_iff_eq_zero_or_eq_one.mp h with rfl | rfl <;> rfl
theorem nI_400 (c p : Nat) : 400 * nI c + nI p = nI (400 * c + p) := by rw [show (400 : Int32) = nI 400 from rfl, pk_mul, nI_add]
theorem nI_3 : (3 : Int32) = nI 3 := rfl
theorem upd_s {f : Nat → Int32} {k : Nat} {x : Int32} : upd f k x k = x := by simp [upd]
theorem upd_n {f : Nat → Int32} {k j : Nat} {x : Int32} (h : j ≠ k) : upd f k x j = f j := by simp [upd, h]
theorem ur_s {g : Nat → Nat → Int32} {a : Nat} {r : Nat → Int32} : ur g a r a = r := by simp [ur]
theorem ur_n {g : Nat → Nat → Int32} {a b : Nat} {r : Nat → Int32} (h : b ≠ a) : ur g a r b = g b := by simp [ur, h]
/-- a sum below u -/
def sm (w : Nat → Nat) : Nat → Nat
  | 0 => 0
  | u + 1 => sm w u + w u
theorem sm_ext {w v : Nat → Nat} : ∀ {u : Nat}, (∀ p, p < u → w p = v p) → sm w u = sm v u
  | 0, _ => rfl
  | u + 1, h => by
    show sm w u + w u = sm v u + v u
    rw [sm_ext (fun p hp => h p (by omega)), h u (by omega)]
theorem sm_cut {w v : Nat → Nat} {q k : Nat} (hq : w q = k + v q) (h : ∀ p, p ≠ q → w p = v p) : ∀ {u : Nat}, q < u → sm w u = k + sm v u
  | 0, hu => absurd hu (by omega)
  | u + 1, hu => by
    show sm w u + w u = k + (sm v u + v u)
    rcases Nat.lt_or_ge q u with h1 | h1
    · rw [sm_cut hq h h1, h u (by omega)]
      omega
    · have e : q = u := by omega
      subst e
      rw [sm_ext (w := w) (v := v) (fun p hp => h p (by omega)), hq]
      omega
theorem sm_zero {w : Nat → Nat} {u : Nat} : ∀ {k : Nat}, (∀ p, u ≤ p → p < u + k → w p = 0) → sm w (u + k) = sm w u
  | 0, _ => rfl
  | k + 1, h => by
    show sm w (u + k) + w (u + k) = sm w u
    rw [sm_zero (fun p h1 h2 => h p h1 (by omega)), h (u + k) (by omega) (by omega)]
    rfl
theorem sm_le {w v : Nat → Nat} : ∀ {u : Nat}, (∀ p, p < u → w p ≤ v p) → sm w u ≤ sm v u
  | 0, _ => Nat.le_refl _
  | u + 1, h => by
    show sm w u + w u ≤ sm v u + v u
    exact Nat.add_le_add (sm_le (fun p hp => h p (by omega))) (h u (by omega))
theorem sm_mono {w : Nat → Nat} {u v : Nat} (h : u ≤ v) : sm w u ≤ sm w v := by
  induction v with
  | zero => have : u = 0 := by omega
            subst this; exact Nat.le_refl _
  | succ v ih =>
    rcases Nat.lt_or_ge u (v + 1) with h1 | h1
    · exact Nat.le_trans (ih (by omega)) (Nat.le_add_right _ _)
    · have : u = v + 1 := by omega
      subst this; exact Nat.le_refl _
/-- a reference's array beside the two rows of the class; place q of the other space left out -/
def RAx (n c q : Nat) (arr a b : Nat → Int32) : Prop := ∀ p, p < n → arr (400 * c + p) = a p ∧ (p ≠ q → arr (400 * (1 - c) + p) = b p)
theorem RAx.weak {n c q : Nat} {arr a b : Nat → Int32} (h : RAx n c n arr a b) : RAx n c q arr a b := fun p hp => ⟨(h p hp).1, fun _ => (h p hp).2 (by omega)⟩
theorem RAx.updC {n c q p : Nat} {arr a b : Nat → Int32} {x : Int32} (hn : n ≤ 400) (hc : c ≤ 1) (hp : p < n) (h : RAx n c q arr a b) : RAx n c q (upd arr (400 * c + p) x) (upd a p x) b := by
  intro j hj
  refine ⟨?_, fun hq => ?_⟩
  · by_cases e : j = p
    · subst e; rw [upd_s, upd_s]
    · rw [upd_n (by omega), upd_n e]; exact (h j hj).1
  · rw [upd_n (by omega)]; exact (h j hj).2 hq
theorem RAx.updO {n c q p : Nat} {arr a b : Nat → Int32} {x : Int32} (hn : n ≤ 400) (hc : c ≤ 1) (hp : p < n) (h : RAx n c q arr a b) : RAx n c q (upd arr (400 * (1 - c) + p) x) a (upd b p x) := by
  intro j hj
  refine ⟨?_, fun hq => ?_⟩
  · rw [upd_n (by omega)]; exact (h j hj).1
  · by_cases e : j = p
    · subst e; rw [upd_s, upd_s]
    · rw [upd_n (by omega), upd_n e]; exact (h j hj).2 hq
/-- the place that was left out is written on both sides -/
theorem RAx.mend {n c q : Nat} {arr a b : Nat → Int32} {x : Int32} (hn : n ≤ 400) (hc : c ≤ 1) (hp : q < n) (h : RAx n c q arr a b) : RAx n c n (upd arr (400 * (1 - c) + q) x) a (upd b q x) := by
  intro j hj
  refine ⟨?_, fun _ => ?_⟩
  · rw [upd_n (by omega)]; exact (h j hj).1
  · by_cases e : j = q
    · subst e; rw [upd_s, upd_s]
    · rw [upd_n (by omega), upd_n e]; exact (h j hj).2 e
/-- .. on the class's side alone -/
theorem RAx.off {n c q : Nat} {arr a b : Nat → Int32} {x : Int32} (h : RAx n c q arr a b) : RAx n c q arr a (upd b q x) := fun p hp => ⟨(h p hp).1, fun hq => by rw [upd_n hq]; exact (h p hp).2 hq⟩
theorem RAx.swap {n c : Nat} {arr a b : Nat → Int32} (hc : c ≤ 1) (h : RAx n c n arr a b) : RAx n (1 - c) n arr b a := fun p hp => ⟨(h p hp).2 (by omega), fun _ => by rw [show 1 - (1 - c) = c by omega]; exact (h p hp).1⟩
/-! headers; the invariant, part by part -/
def hc (g : Nat → Nat → Int32) (u p z : Nat) : Prop := p + z < u ∧ g 4 p = 3 ∧ g 5 p = nI z ∧ 1 ≤ z ∧ z ≤ 8
def ho (g : Nat → Nat → Int32) (o p z : Nat) : Prop := p + z < o ∧ g 7 p = 3 ∧ g 8 p = nI z ∧ 1 ≤ z ∧ z ≤ 8
def wC (g : Nat → Nat → Int32) (p : Nat) : Nat := if g 4 p = 3 ∧ g 6 p = -1 then (g 5 p).toNatClampNeg + 1 else 0
def wO (g : Nat → Nat → Int32) (p : Nat) : Nat := if g 7 p = 3 then (g 8 p).toNatClampNeg + 1 else 0
def IH (c u : Nat) (g : Nat → Nat → Int32) : Prop := ∀ p, p < u → (g 4 p = 3 → ∃ z, hc g u p z ∧ ∀ j, p < j → j ≤ p + z → g 4 j ≠ 3) ∧ (g 4 p = 3 ∨ g 4 p = 0 ∨ (g 4 p = nI (1 + c) ∧ ∃ t z, g 5 p = nI t ∧ hc g u t z))
def IO (c u o sc q : Nat) (g : Nat → Nat → Int32) : Prop := ∀ p, p < o → (g 7 p = 3 → g 9 p = -1 ∧ ∃ z, ho g o p z ∧ ∀ j, p < j → j ≤ p + z → g 7 j ≠ 3) ∧ (p ≠ q → g 7 p = 3 ∨ g 7 p = 0 ∨ (g 7 p = nI (2 - c) ∧ ∃ t z, g 8 p = nI t ∧ ho g o t z) ∨ (sc ≤ p ∧ g 7 p = nI (1 + c) ∧ ∃ t z, g 8 p = nI t ∧ hc g u t z))
def IR (u o : Nat) (g : Nat → Nat → Int32) : Prop := ∀ p z, hc g u p z → g 6 p = -1 ∨ ∃ t, g 6 p = nI t ∧ ho g o t z
def IG (u : Nat) (g : Nat → Nat → Int32) : Prop := ∀ r, r < 16 → g 0 r = 0 ∨ (g 0 r = 1 ∧ ∃ t z, g 1 r = nI t ∧ hc g u t z)
def IL (u lg : Nat) (g : Nat → Nat → Int32) : Prop := ∀ i, i < lg → ∃ p z j, g 2 i = nI p ∧ hc g u p z ∧ g 3 i = nI j ∧ j < z
def IU (u o : Nat) (g : Nat → Nat → Int32) : Prop := o + sm (wC g) u ≤ u ∧ sm (wO g) o ≤ o
def IS (n c u o lg tk : Nat) (f : Nat → Int32) : Prop := (16 ≤ n ∧ n ≤ 400 ∧ c ≤ 1 ∧ u ≤ n ∧ tk ≤ lg ∧ lg ≤ 512) ∧ f 0 = nI n ∧ f 12 = nI c ∧ f 14 = nI (1 - c) ∧ f 13 = nI u ∧ f 15 = nI o ∧ f 10 = nI lg ∧ f 11 = nI tk
def RS (f fm : Nat → Int32) : Prop := fm 1 = f 0 ∧ fm 2 = f 1 ∧ fm 3 = f 12 ∧ fm 4 = f 2 ∧ fm 5 = f 3 ∧ fm 6 = f 10 ∧ fm 7 = f 11 ∧ fm 8 = f 4 ∧ fm 9 = f 5 ∧ fm 12 = f 6
def RG (n c lg q : Nat) (f : Nat → Int32) (g gm : Nat → Nat → Int32) : Prop := RAx n c q (gm 0) (g 4) (g 7) ∧ RAx n c q (gm 1) (g 5) (g 8) ∧ RAx n c n (gm 2) (g 6) (g 9) ∧ gm 3 c = f 13 ∧ gm 3 (1 - c) = f 15 ∧ (∀ r, r < 16 → gm 4 r = g 0 r ∧ gm 5 r = g 1 r) ∧ (∀ i, i < lg → gm 6 i = g 2 i ∧ gm 7 i = g 3 i)
/-- the pair's state; place q of the other space (q = n: none) is not held to the rules of its kind -/
def PR (n c u o sc lg tk q : Nat) (f : Nat → Int32) (g : Nat → Nat → Int32) (fm : Nat → Int32) (gm : Nat → Nat → Int32) : Prop := IS n c u o lg tk f ∧ IU u o g ∧ IH c u g ∧ IO c u o sc q g ∧ IR u o g ∧ IG u g ∧ IL u lg g ∧ RS f fm ∧ RG n c lg q f g gm
theorem hc.ext {g g' : Nat → Nat → Int32} {u u' p z : Nat} (h : hc g u p z) (hu : u ≤ u') (h4 : g' 4 p = g 4 p) (h5 : g' 5 p = g 5 p) : hc g' u' p z := ⟨by have := h.1; omega, by rw [h4]; exact h.2.1, by rw [h5]; exact h.2.2.1, h.2.2.2.1, h.2.2.2.2⟩
theorem ho.ext {g g' : Nat → Nat → Int32} {o o' p z : Nat} (h : ho g o p z) (hu : o ≤ o') (h4 : g' 7 p = g 7 p) (h5 : g' 8 p = g 8 p) : ho g' o' p z := ⟨by have := h.1; omega, by rw [h4]; exact h.2.1, by rw [h5]; exact h.2.2.1, h.2.2.2.1, h.2.2.2.2⟩
theorem hc.same {g : Nat → Nat → Int32} {u p z z' : Nat} (h : hc g u p z) (h' : g 5 p = nI z') (hz : z' < 2 ^ 31) : z' = z := nI_inj hz (by have := h.2.2.2.2; omega) (h'.symm.trans h.2.2.1)
