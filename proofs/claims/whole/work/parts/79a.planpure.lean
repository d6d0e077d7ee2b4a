/-! ===== plan: the orders of places, said of numbers alone ===== -/
def pop (m : Nat) : Nat := m % 2 + m / 2 % 2 + m / 4 % 2 + m / 8 % 2 + m / 16 % 2 + m / 32 % 2 + m / 64 % 2
def kth (m : Nat) : Nat → Nat → Nat → Nat
  | 0, _, p => p
  | f + 1, k, p => if m.testBit p = true then kth m f k (p + 1) else if k = 0 then p else kth m f (k - 1) (p + 1)
def kp (m k : Nat) : Nat := kth m 8 k 0
def rk (m p : Nat) : Nat := p - pop (m % 2 ^ p)
abbrev om (m p : Nat) : Nat := m ||| 2 ^ p
theorem om_f : ∀ m, m < 128 → ∀ p, p < 7 → m.testBit p = false → pop (om m p) = pop m + 1 ∧ m < om m p := by decide +kernel
theorem kp_f : ∀ L, L < 8 → ∀ m, m < 2 ^ L → ∀ k, k < 8 → k + pop m < L → kp m k < L ∧ m.testBit (kp m k) = false := by decide +kernel
theorem rk_f : ∀ L, L < 8 → ∀ m, m < 2 ^ L → ∀ p, p < L → m.testBit p = false → rk m p + pop m < L ∧ kp m (rk m p) = p := by decide +kernel
theorem kp_mono : ∀ L, L < 8 → ∀ m, m < 2 ^ L → ∀ k, k < 8 → k + pop m < L → ∀ j, j < k → kp m j < kp m k := by decide +kernel
theorem pop_f : ∀ L, L < 8 → ∀ m, m < 2 ^ L → pop m ≤ L ∧ (m < 2 ^ L - 1 → pop m < L) := by decide +kernel
theorem pop_all : ∀ L, L < 8 → pop (2 ^ L - 1) = L := by decide +kernel
theorem p2_le {L : Nat} (h : L < 8) : 2 ^ L ≤ 128 := Nat.pow_le_pow_right (by decide) (show L ≤ 7 by omega)
theorem om_lt {L m p : Nat} (hm : m < 2 ^ L) (hp : p < L) : om m p < 2 ^ L := Nat.or_lt_two_pow hm (Nat.pow_lt_pow_right (by decide) hp)
def sc (fr : Nat → Bool) (g : Nat → Nat) : Nat → Nat × Nat
  | 0 => (0, 0)
  | p + 1 => if fr p = true ∧ (sc fr g p).2 ≤ g p then (p, g p + 1) else sc fr g p
theorem sc_is {fr : Nat → Bool} {g : Nat → Nat} : ∀ L, ((∀ p, p < L → fr p = false) ∧ sc fr g L = (0, 0)) ∨ ((sc fr g L).1 < L ∧ fr (sc fr g L).1 = true ∧ (sc fr g L).2 = g (sc fr g L).1 + 1 ∧ (∀ p, p < L → fr p = true → g p ≤ g (sc fr g L).1) ∧ ∀ p, p < (sc fr g L).1 → fr p = true → g p < g (sc fr g L).1)
  | 0 => Or.inl ⟨fun p hp => by omega, rfl⟩
  | L + 1 => by
    have ih := sc_is (fr := fr) (g := g) L
    show ((∀ p, p < L + 1 → fr p = false) ∧ (if fr L = true ∧ (sc fr g L).2 ≤ g L then (L, g L + 1) else sc fr g L) = (0, 0)) ∨ _
    by_cases e : fr L = true ∧ (sc fr g L).2 ≤ g L
    · refine Or.inr ?_
      have es : sc fr g (L + 1) = (L, g L + 1) := if_pos e
      rw [es]
      refine ⟨Nat.lt_succ_self L, e.1, rfl, fun p hp hf => ?_, fun p hp hf => ?_⟩
      · rcases Nat.lt_or_ge p L with q | q
        · rcases ih with ih | ih
          · rw [ih.1 p q] at hf; cases hf
          · have := ih.2.2.2.1 p q hf
            have := ih.2.2.1
            have := e.2
            show g p ≤ g L
            omega
        · rw [show p = L by omega]; exact Nat.le_refl _
      · rcases ih with ih | ih
        · rw [ih.1 p hp] at hf; cases hf
        · have := ih.2.2.2.1 p hp hf
          have := ih.2.2.1
          have := e.2
          show g p < g L
          omega
    · have es : sc fr g (L + 1) = sc fr g L := if_neg e
      rw [if_neg e, es]
      rcases ih with ih | ih
      · refine Or.inl ⟨fun p hp => ?_, ih.2⟩
        rcases Nat.lt_or_ge p L with q | q
        · exact ih.1 p q
        · rw [show p = L by omega]
          cases hL : fr L with
          | false => rfl
          | true => exact absurd ⟨hL, by rw [ih.2]; exact Nat.zero_le _⟩ e
      · refine Or.inr ⟨by omega, ih.2.1, ih.2.2.1, fun p hp hf => ?_, ih.2.2.2.2⟩
        rcases Nat.lt_or_ge p L with q | q
        · exact ih.2.2.2.1 p q hf
        · have hp2 : p = L := by omega
          rw [hp2] at hf ⊢
          have : ¬ (sc fr g L).2 ≤ g L := fun z => e ⟨hf, z⟩
          have := ih.2.2.1
          omega
def bv (W : Nat → Nat → Nat) (L : Nat) : Nat → Nat → Nat
  | 0, _ => 0
  | r + 1, m => W (pop m) (sc (fun q => !m.testBit q) (fun q => W (pop m) q + bv W L r (om m q)) L).1 + bv W L r (om m (sc (fun q => !m.testBit q) (fun q => W (pop m) q + bv W L r (om m q)) L).1)
def gp (W : Nat → Nat → Nat) (L r m : Nat) : Nat := (sc (fun q => !m.testBit q) (fun q => W (pop m) q + bv W L r (om m q)) L).1
theorem bv_s {W : Nat → Nat → Nat} {L r m : Nat} : bv W L (r + 1) m = W (pop m) (gp W L r m) + bv W L r (om m (gp W L r m)) := rfl
theorem bv_le {W : Nat → Nat → Nat} {L B : Nat} (hW : ∀ s p, W s p ≤ B) : ∀ r m, bv W L r m ≤ r * B
  | 0, m => Nat.zero_le _
  | r + 1, m => by
    have h1 := hW (pop m) (gp W L r m)
    have h2 := bv_le (L := L) hW r (om m (gp W L r m))
    rw [bv_s, Nat.succ_mul]
    omega
theorem gp_is {W : Nat → Nat → Nat} {L r m : Nat} (hL : L < 8) (hm : m < 2 ^ L) (hr : pop m + (r + 1) = L) : gp W L r m < L ∧ m.testBit (gp W L r m) = false ∧ (∀ p, p < L → m.testBit p = false → W (pop m) p + bv W L r (om m p) ≤ bv W L (r + 1) m) ∧ ∀ p, p < gp W L r m → m.testBit p = false → W (pop m) p + bv W L r (om m p) < bv W L (r + 1) m := by
  rcases sc_is (fr := fun q => !m.testBit q) (g := fun q => W (pop m) q + bv W L r (om m q)) L with h | ⟨h1, h2, -, h4, h5⟩
  · have := kp_f L hL m hm 0 (by omega) (by omega)
    have h6 := h.1 _ this.1
    rw [this.2] at h6
    cases h6
  · refine ⟨h1, ?_, fun p hp hf => h4 p hp ?_, fun p hp hf => h5 p hp ?_⟩
    · cases hb : m.testBit (gp W L r m) with
      | false => rfl
      | true =>
        have h2 : (!m.testBit (gp W L r m)) = true := h2
        rw [hb] at h2
        cases h2
    · show (!m.testBit p) = true
      rw [hf]; rfl
    · show (!m.testBit p) = true
      rw [hf]; rfl
def fc : Nat → Nat
  | 0 => 1
  | n + 1 => (n + 1) * fc n
theorem fc_pos : ∀ n, 0 < fc n
  | 0 => by decide
  | n + 1 => Nat.mul_pos (by omega) (fc_pos n)
def gI (W : Nat → Nat → Nat) (L : Nat) : Nat → Nat → Nat
  | 0, _ => 0
  | r + 1, m => rk m (gp W L r m) * fc r + gI W L r (om m (gp W L r m))
def sv (W : Nat → Nat → Nat) : Nat → Nat → Nat → Nat
  | 0, _, _ => 0
  | r + 1, m, i => W (pop m) (kp m (i / fc r)) + sv W r (om m (kp m (i / fc r))) (i % fc r)
theorem plan_main {W : Nat → Nat → Nat} {L : Nat} (hL : L < 8) : ∀ r m, m < 2 ^ L → pop m + r = L → gI W L r m < fc r ∧ sv W r m (gI W L r m) = bv W L r m ∧ (∀ i, i < fc r → sv W r m i ≤ bv W L r m) ∧ ∀ i, i < gI W L r m → sv W r m i < bv W L r m := by
  intro r
  induction r with
  | zero => exact fun m hm hr => ⟨Nat.zero_lt_one, rfl, fun i _ => Nat.le_refl _, fun i hi => absurd hi (Nat.not_lt_zero _)⟩
  | succ r ih =>
    intro m hm hr
    have hm7 : m < 128 := Nat.lt_of_lt_of_le hm (p2_le hL)
    obtain ⟨g1, g2, g3, g4⟩ := gp_is (W := W) hL hm hr
    obtain ⟨k1, k2⟩ := rk_f L hL m hm _ g1 g2
    obtain ⟨x1, x2, x3, x4⟩ := ih (om m (gp W L r m)) (om_lt hm g1) (by rw [(om_f m hm7 _ (by omega) g2).1]; omega)
    have hF := fc_pos r
    have eg : gI W L (r + 1) m = rk m (gp W L r m) * fc r + gI W L r (om m (gp W L r m)) := rfl
    have d1 := dec_1 (x := rk m (gp W L r m)) x1
    rw [← eg] at d1
    have es : ∀ i, sv W (r + 1) m i = W (pop m) (kp m (i / fc r)) + sv W r (om m (kp m (i / fc r))) (i % fc r) := fun i => rfl
    have lt1 : gI W L (r + 1) m < fc (r + 1) := by
      have h1 : (rk m (gp W L r m) + 1) * fc r ≤ (r + 1) * fc r := Nat.mul_le_mul_right _ (by omega)
      rw [Nat.succ_mul] at h1
      show gI W L (r + 1) m < (r + 1) * fc r
      omega
    have base : ∀ i, i < fc (r + 1) → kp m (i / fc r) < L ∧ m.testBit (kp m (i / fc r)) = false ∧ sv W r (om m (kp m (i / fc r))) (i % fc r) ≤ bv W L r (om m (kp m (i / fc r))) := by
      intro i hi
      have hk : i / fc r < r + 1 := (Nat.div_lt_iff_lt_mul hF).mpr hi
      obtain ⟨f1, f2⟩ := kp_f L hL m hm (i / fc r) (by omega) (by omega)
      exact ⟨f1, f2, (ih _ (om_lt hm f1) (by rw [(om_f m hm7 _ (by omega) f2).1]; omega)).2.2.1 _ (Nat.mod_lt _ hF)⟩
    refine ⟨lt1, ?_, fun i hi => ?_, fun i hi => ?_⟩
    · rw [es, d1.1, d1.2, k2, x2, bv_s]
    · obtain ⟨f1, f2, f3⟩ := base i hi
      have := g3 _ f1 f2
      rw [es]
      omega
    · obtain ⟨f1, f2, f3⟩ := base i (Nat.lt_trans hi lt1)
      have hk : i / fc r ≤ rk m (gp W L r m) := by
        have := Nat.div_le_div_right (c := fc r) (Nat.le_of_lt hi)
        rw [d1.2] at this
        exact this
      rw [es]
      rcases Nat.lt_or_ge (i / fc r) (rk m (gp W L r m)) with q | q
      · have h1 := kp_mono L hL m hm _ (by omega) k1 _ q
        rw [k2] at h1
        have := g4 _ h1 f2
        omega
      · have q2 : i / fc r = rk m (gp W L r m) := by omega
        have hj : i % fc r < gI W L r (om m (gp W L r m)) := by
          have h1 := Nat.div_add_mod i (fc r)
          rw [q2, Nat.mul_comm] at h1
          omega
        rw [q2, k2, bv_s]
        have := x4 _ hj
        omega
def dM (L i : Nat) : Nat → Nat × Nat
  | 0 => (0, i)
  | s + 1 => (om (dM L i s).1 (kp (dM L i s).1 ((dM L i s).2 / fc (L - 1 - s))), (dM L i s).2 % fc (L - 1 - s))
def dP (L i s : Nat) : Nat := kp (dM L i s).1 ((dM L i s).2 / fc (L - 1 - s))
theorem fc_s {L s : Nat} (h : s < L) : fc (L - s) = (L - 1 - s + 1) * fc (L - 1 - s) := by
  rw [show L - s = L - 1 - s + 1 by omega]; rfl
theorem dM_ok {L i : Nat} (hL : L < 8) (hi : i < fc L) : ∀ s, s ≤ L → (dM L i s).1 < 2 ^ L ∧ pop (dM L i s).1 = s ∧ (dM L i s).2 < fc (L - s) ∧ (s < L → dP L i s < L ∧ (dM L i s).1.testBit (dP L i s) = false ∧ (dM L i s).2 / fc (L - 1 - s) + s < L) := by
  have key : ∀ s, (dM L i s).1 < 2 ^ L → pop (dM L i s).1 = s → (dM L i s).2 < fc (L - s) → (s < L → dP L i s < L ∧ (dM L i s).1.testBit (dP L i s) = false ∧ (dM L i s).2 / fc (L - 1 - s) + s < L) := by
    intro s h1 h2 h3 hs
    rw [fc_s hs] at h3
    have hk := (Nat.div_lt_iff_lt_mul (fc_pos (L - 1 - s))).mpr h3
    have hk2 : (dM L i s).2 / fc (L - 1 - s) + pop (dM L i s).1 < L := by rw [h2]; omega
    have := kp_f L hL _ h1 _ (by omega) hk2
    exact ⟨this.1, this.2, by omega⟩
  intro s
  induction s with
  | zero =>
    intro _
    have h1 : (dM L i 0).1 < 2 ^ L := Nat.pow_pos (by decide)
    have pz : pop (dM L i 0).1 = 0 := by show pop 0 = 0; decide
    exact ⟨h1, pz, hi, key 0 h1 pz hi⟩
  | succ s ih =>
    intro hs
    obtain ⟨h1, h2, h3, h4⟩ := ih (by omega)
    obtain ⟨f1, f2, -⟩ := h4 (by omega)
    have a1 : (dM L i (s + 1)).1 < 2 ^ L := om_lt h1 f1
    have a2 : pop (dM L i (s + 1)).1 = s + 1 := by
      have := (om_f _ (Nat.lt_of_lt_of_le h1 (p2_le hL)) _ (by omega) f2).1
      rw [h2] at this
      exact this
    have a3 : (dM L i (s + 1)).2 < fc (L - (s + 1)) := by
      rw [show L - (s + 1) = L - 1 - s by omega]
      exact Nat.mod_lt _ (fc_pos _)
    exact ⟨a1, a2, a3, key _ a1 a2 a3⟩
def sumR (W : Nat → Nat → Nat) (L i : Nat) : Nat → Nat
  | 0 => 0
  | s + 1 => sumR W L i s + W s (dP L i s)
theorem sum_sv {W : Nat → Nat → Nat} {L i : Nat} (hL : L < 8) (hi : i < fc L) : ∀ s, s ≤ L → sumR W L i s + sv W (L - s) (dM L i s).1 (dM L i s).2 = sv W L 0 i := by
  intro s
  induction s with
  | zero => exact fun _ => Nat.zero_add _
  | succ s ih =>
    intro hs
    rw [← ih (by omega), show L - s = L - 1 - s + 1 by omega, show L - (s + 1) = L - 1 - s by omega]
    show sumR W L i s + W s (dP L i s) + sv W (L - 1 - s) (dM L i (s + 1)).1 (dM L i (s + 1)).2 = sumR W L i s + (W (pop (dM L i s).1) (dP L i s) + sv W (L - 1 - s) (dM L i (s + 1)).1 (dM L i (s + 1)).2)
    rw [(dM_ok hL hi s (by omega)).2.1]
    omega
theorem sum_is {W : Nat → Nat → Nat} {L i : Nat} (hL : L < 8) (hi : i < fc L) : sumR W L i L = sv W L 0 i := by
  have h := sum_sv (W := W) hL hi L (Nat.le_refl L)
  rw [Nat.sub_self] at h
  exact h
def gu (W : Nat → Nat → Nat) (L : Nat) : Nat → Nat
  | 0 => 0
  | s + 1 => om (gu W L s) (gp W L (L - 1 - s) (gu W L s))
theorem g_dM {W : Nat → Nat → Nat} {L : Nat} (hL : L < 8) : ∀ s, s ≤ L → dM L (gI W L L 0) s = (gu W L s, gI W L (L - s) (gu W L s)) ∧ gu W L s < 2 ^ L ∧ pop (gu W L s) = s ∧ (s < L → dP L (gI W L L 0) s = gp W L (L - 1 - s) (gu W L s)) := by
  have gl : gI W L L 0 < fc L := (plan_main hL L 0 (Nat.pow_pos (by decide)) (Nat.zero_add L)).1
  have key : ∀ s, s < L → gu W L s < 2 ^ L → pop (gu W L s) = s → dM L (gI W L L 0) s = (gu W L s, gI W L (L - s) (gu W L s)) → dP L (gI W L L 0) s = gp W L (L - 1 - s) (gu W L s) ∧ (dM L (gI W L L 0) s).2 % fc (L - 1 - s) = gI W L (L - 1 - s) (om (gu W L s) (gp W L (L - 1 - s) (gu W L s))) := by
    intro s hs h1 h2 h3
    obtain ⟨f1, f2, -, -⟩ := gp_is (W := W) (r := L - 1 - s) hL h1 (by omega)
    obtain ⟨k1, k2⟩ := rk_f L hL _ h1 _ f1 f2
    have x1 := (plan_main (W := W) hL (L - 1 - s) _ (om_lt h1 f1) (by rw [(om_f _ (Nat.lt_of_lt_of_le h1 (p2_le hL)) _ (by omega) f2).1]; omega)).1
    have d1 := dec_1 (x := rk (gu W L s) (gp W L (L - 1 - s) (gu W L s))) x1
    unfold dP
    rw [h3]
    show kp (gu W L s) (gI W L (L - s) (gu W L s) / fc (L - 1 - s)) = _ ∧ gI W L (L - s) (gu W L s) % fc (L - 1 - s) = _
    rw [show L - s = L - 1 - s + 1 by omega]
    show kp (gu W L s) ((rk (gu W L s) (gp W L (L - 1 - s) (gu W L s)) * fc (L - 1 - s) + gI W L (L - 1 - s) (om (gu W L s) (gp W L (L - 1 - s) (gu W L s)))) / fc (L - 1 - s)) = _ ∧ (rk (gu W L s) (gp W L (L - 1 - s) (gu W L s)) * fc (L - 1 - s) + gI W L (L - 1 - s) (om (gu W L s) (gp W L (L - 1 - s) (gu W L s)))) % fc (L - 1 - s) = _
    rw [d1.1, d1.2, k2]
    exact ⟨rfl, rfl⟩
  intro s
  induction s with
  | zero =>
    intro _
    have h1 : gu W L 0 < 2 ^ L := Nat.pow_pos (by decide)
    have pz : pop (gu W L 0) = 0 := by show pop 0 = 0; decide
    exact ⟨rfl, h1, pz, fun hs => (key 0 hs h1 pz rfl).1⟩
  | succ s ih =>
    intro hs
    obtain ⟨h1, h2, h3, h4⟩ := ih (by omega)
    obtain ⟨k1, k2⟩ := key s (by omega) h2 h3 h1
    have hk := dM_ok hL gl (s + 1) hs
    have e1 : dM L (gI W L L 0) (s + 1) = (gu W L (s + 1), gI W L (L - (s + 1)) (gu W L (s + 1))) := by
      show (om (dM L (gI W L L 0) s).1 (dP L (gI W L L 0) s), (dM L (gI W L L 0) s).2 % fc (L - 1 - s)) = _
      rw [k2, k1, h1, show L - (s + 1) = L - 1 - s by omega]
      rfl
    rw [e1] at hk
    exact ⟨e1, hk.1, hk.2.1, fun hs2 => (key (s + 1) hs2 hk.1 hk.2.1 e1).1⟩
