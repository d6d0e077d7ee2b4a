/-! ===== even ===== -/
def mxF (a : Nat → Nat) : Nat → Nat → Nat → Nat
  | 0, m, _ => m
  | k + 1, m, p => mxF a k (if m < a p then a p else m) (p + 1)
def smF (a : Nat → Nat) : Nat → Nat → Nat → Nat
  | 0, s, _ => s
  | k + 1, s, p => smF a k (s + a p) (p + 1)
def evF (a : Nat → Nat) (M : Nat) : Nat → Nat → Nat → Nat
  | 0, s, _ => s
  | k + 1, s, p => evF a M k (s + (M - a p)) (p + 1)
theorem mxF_ge {a : Nat → Nat} : ∀ k m p, m ≤ mxF a k m p ∧ ∀ q, p ≤ q → q < p + k → a q ≤ mxF a k m p := by
  intro k
  induction k with
  | zero => intro m p; exact ⟨Nat.le_refl _, fun q h1 h2 => by omega⟩
  | succ k ih =>
    intro m p
    unfold mxF
    obtain ⟨h1, h2⟩ := ih (if m < a p then a p else m) (p + 1)
    have hm : m ≤ (if m < a p then a p else m) ∧ a p ≤ (if m < a p then a p else m) := by split <;> omega
    refine ⟨by omega, fun q q1 q2 => ?_⟩
    by_cases e : q = p
    · rw [e]; omega
    · exact h2 q (by omega) (by omega)
theorem mxF_le {a : Nat → Nat} {B : Nat} : ∀ k m p, m ≤ B → (∀ q, p ≤ q → q < p + k → a q ≤ B) → mxF a k m p ≤ B := by
  intro k
  induction k with
  | zero => intro m p h _; exact h
  | succ k ih =>
    intro m p h1 h2
    unfold mxF
    refine ih _ _ ?_ (fun q q1 q2 => h2 q (by omega) (by omega))
    have := h2 p (by omega) (by omega)
    split <;> omega
theorem smF_le {a : Nat → Nat} {B : Nat} : ∀ k s p, (∀ q, p ≤ q → q < p + k → a q ≤ B) → smF a k s p ≤ s + k * B := by
  intro k
  induction k with
  | zero => intro s p _; unfold smF; omega
  | succ k ih =>
    intro s p h
    unfold smF
    have h1 := ih (s + a p) (p + 1) (fun q q1 q2 => h q (by omega) (by omega))
    have h2 := h p (by omega) (by omega)
    rw [Nat.succ_mul]
    omega
theorem evF_sm {a : Nat → Nat} {M : Nat} : ∀ k s s' p, (∀ q, p ≤ q → q < p + k → a q ≤ M) → evF a M k s p + smF a k s' p = s + s' + k * M := by
  intro k
  induction k with
  | zero => intro s s' p _; unfold evF smF; omega
  | succ k ih =>
    intro s s' p h
    unfold evF smF
    have h1 := ih (s + (M - a p)) (s' + a p) (p + 1) (fun q q1 q2 => h q (by omega) (by omega))
    have h2 := h p (by omega) (by omega)
    rw [Nat.succ_mul]
    omega
theorem even_lx {n w c : Nat} {σ : zMem} {a : Nat → Nat} (hc : σ w 2 = nI c) (h6 : c ≤ 6) (hv : ∀ p, p < 6 → σ (w + 3 + p) 1 = nI (a p)) (ha : ∀ p, p < 6 → a p < 2 ^ 20) : ∀ f k m s p, m < 2 ^ 20 → p + k = c → k < f → zlp (LX4_questionsTillEven_6 n w) f (σ, nI m, nI s, nI p) = some (nI (mxF a k m p) * nI c - nI (smF a k s p), σ) := by
  intro f
  induction f with
  | zero => intro k m s p _ _ h; omega
  | succ f ih =>
    intro k m s p hm hk hf
    rw [zlp_n]
    show LBX4_questionsTillEven_6 n w _ σ (nI m) (nI s) (nI p) = _
    unfold LBX4_questionsTillEven_6
    rw [hc]
    cases k with
    | zero => rw [zif_pos (nI_le (by omega) (by omega))]; rfl
    | succ k =>
      have kp := ha p (by omega)
      rw [zif_neg (nI_ge (by omega) (by omega)), zgd_in (show p < 6 by omega) (by decide), zgd_in (show p < 6 by omega) (by decide), zcl (by omega), hv p (by omega), nI_1, nI_add]
      unfold mxF smF
      by_cases e : m < a p
      · rw [if_pos (nI_lt e (by omega)), if_pos e]
        exact ih k (a p) (s + a p) (p + 1) kp (by omega) (by omega)
      · rw [if_neg (nI_nlt (by omega) (by omega)), if_neg e]
        exact ih k m (s + a p) (p + 1) hm (by omega) (by omega)
theorem meven2_lx {n c M : Nat} {σ : zMem} {a : Nat → Nat} (hc : σ 0 5 = nI c) (h6 : c ≤ 6) (hv : ∀ p, p < 6 → σ 6 p = nI (a p)) (hM : ∀ p, p < c → a p ≤ M) : ∀ f k s p, p + k = c → k < f → zlp (LX10_even_53 n) f (σ, nI M, nI s, nI p) = some (nI (evF a M k s p), σ) := by
  intro f
  induction f with
  | zero => intro k s p _ h; omega
  | succ f ih =>
    intro k s p hk hf
    rw [zlp_n]
    show LBX10_even_53 n _ σ (nI M) (nI s) (nI p) = _
    unfold LBX10_even_53
    rw [hc]
    cases k with
    | zero => rw [zif_pos (nI_le (by omega) (by omega))]; rfl
    | succ k =>
      rw [zif_neg (nI_ge (by omega) (by omega)), zgd_in (show p < 6 by omega) (by decide), zcl (by omega), hv p (by omega), nI_1, pk_sub (hM p (by omega)), nI_add]
      unfold evF
      exact ih k (s + (M - a p)) (p + 1) (by omega) (by omega)
theorem meven_lx {n c : Nat} {σ : zMem} {a : Nat → Nat} (hn : 6 < n) (hc : σ 0 5 = nI c) (h6 : c ≤ 6) (hv : ∀ p, p < 6 → σ 6 p = nI (a p)) (ha : ∀ p, p < 6 → a p < 2 ^ 20) : ∀ f k m p, m < 2 ^ 20 → p + k = c → k < f → (∀ q, q < c → a q ≤ mxF a k m p) → zlp (LX10_even_14 n) f (σ, nI m, nI p) = some (nI (evF a (mxF a k m p) c 0 0), σ) := by
  intro f
  induction f with
  | zero => intro k m p _ _ h; omega
  | succ f ih =>
    intro k m p hm hk hf hq
    rw [zlp_n]
    show LBX10_even_14 n _ σ (nI m) (nI p) = _
    unfold LBX10_even_14
    rw [hc]
    cases k with
    | zero =>
      rw [zif_pos (nI_le (by omega) (by omega))]
      exact meven2_lx hc h6 hv hq n c 0 0 (by omega) (by omega)
    | succ k =>
      have kp := ha p (by omega)
      rw [zif_neg (nI_ge (by omega) (by omega)), zgd_in (show p < 6 by omega) (by decide), zcl (by omega), hv p (by omega), nI_1, zgd_n (show p < 6 by omega) (by decide)]
      unfold mxF at hq ⊢
      by_cases e : m < a p
      · rw [if_pos e] at hq ⊢
        rw [zif_neg (nI_ge e (by omega))]
        exact ih k (a p) (p + 1) kp (by omega) (by omega) hq
      · rw [if_neg e] at hq ⊢
        rw [zif_pos (nI_le (by omega) (by omega))]
        exact ih k m (p + 1) hm (by omega) (by omega) hq
theorem even_e (n t : Nat) (hn : 6 < n) (ht : t < 600) : zE t (fun σ => FX9_even n σ) (fun σ => FX10_even n σ) := by
  intro σx σm h
  obtain ⟨u, c, so, sn, ce, rc, rd, qs, br, ft, tr, hX, hM, hI⟩ := id h
  have hc : c < 2 ^ 31 := by have := hI.2.1; omega
  have hc6 : c ≤ 6 := by have := hI.2.1; omega
  by_cases e : c = 0
  · refine ⟨-3, σx, σm, ?_, ?_, zR_next h⟩
    · show FX9_even n σx = _
      unfold FX9_even
      rw [hX.1.1, zif_pos (by rw [e]; rfl)]
    · show FX10_even n σm = _
      unfold FX10_even
      rw [hM.1.1, zif_pos (by rw [e]; rfl)]
  · have g := mxF_ge (a := u 1) c 0 0
    have g2 : ∀ q, q < c → u 1 q ≤ mxF (u 1) c 0 0 := fun q hq => g.2 q (by omega) (by omega)
    have g3 := evF_sm (a := u 1) (M := mxF (u 1) c 0 0) c 0 0 0 (fun q q1 q2 => g2 q (by omega))
    refine ⟨nI (evF (u 1) (mxF (u 1) c 0 0) c 0 0), σx, σm, ?_, ?_, zR_next h⟩
    · show FX9_even n σx = _
      unfold FX9_even FX4_questionsTillEven
      rw [hX.1.1, zif_neg (nI_ne0 (by omega) hc), show zlp (LX4_questionsTillEven_6 n 10) n (σx, 0, 0, 0) = _ from even_lx hX.1.1 hc6 (fun p hp => hX.2.1.1 p hp 1 (by decide)) (aB2 hI.1 (by omega)) n c 0 0 0 (by omega) (by omega) (by omega), zbd_s, pk_mul, pk_sub (by rw [Nat.mul_comm]; omega)]
      congr 3
      rw [Nat.mul_comm]
      omega
    · show FX10_even n σm = _
      unfold FX10_even
      rw [hM.1.1, zif_neg (nI_ne0 (by omega) hc)]
      exact meven_lx hn hM.1.1 hc6 (fun p hp => hM.2.1.1 p hp 1 (by decide)) (aB2 hI.1 (by omega)) n c 0 0 (by omega) (by omega) (by omega) g2
/-! ===== keep, putBack ===== -/
def mD (c : Nat) (σ0 σ : zMem) : Prop := (∀ k, k < 8 ∨ k = 28 → σ 0 k = σ0 0 k) ∧ (∀ o, (1 ≤ o ∧ o < 6) ∨ o = 8 ∨ 17 ≤ o → σ o = σ0 o) ∧ (∀ p, c ≤ p → σ 6 p = σ0 6 p ∧ σ 7 p = σ0 7 p) ∧ ∀ p, p < c → σ 11 p = σ0 6 p ∧ σ 12 p = σ0 7 p
theorem keep_lx {n c : Nat} (h6 : c ≤ 6) : ∀ f k i (σ : zMem), σ 0 5 = nI c → i + k = c → k < f → ∃ σ', zlp (LX10_keep_2 n) f (σ, nI i) = some (0, σ') ∧ (∀ o, o ≠ 11 → o ≠ 12 → σ' o = σ o) ∧ (∀ p, i ≤ p → p < c → σ' 11 p = σ 6 p ∧ σ' 12 p = σ 7 p) ∧ (∀ p, p < i → σ' 11 p = σ 11 p ∧ σ' 12 p = σ 12 p) := by
  intro f
  induction f with
  | zero => intro k i σ _ _ h; omega
  | succ f ih =>
    intro k i σ hc hk hf
    rw [zlp_n]
    show ∃ σ', LBX10_keep_2 n _ σ (nI i) = _ ∧ _
    unfold LBX10_keep_2
    rw [hc]
    cases k with
    | zero => exact ⟨σ, by rw [zif_pos (nI_le (by omega) (by omega))], fun _ _ _ => rfl, fun p h1 h2 => by omega, fun _ _ => ⟨rfl, rfl⟩⟩
    | succ k =>
      rw [zif_neg (nI_ge (by omega) (by omega)), zgd_in (show i < 6 by omega) (by decide), zgd_in (show i < 6 by omega) (by decide), zlet_s, zgd_in (show i < 6 by omega) (by decide), zgd_in (show i < 6 by omega) (by decide), zlet_s, zcl (by omega), nI_1]
      obtain ⟨σ', h1, h2, h3, h4⟩ := ih k (i + 1) (zst (zst σ 11 i (σ 6 i)) 12 i (zst σ 11 i (σ 6 i) 7 i)) (by rw [zst_n (by decide), zst_n (by decide)]; exact hc) (by omega) (by omega)
      refine ⟨σ', h1, fun o a b => by rw [h2 o a b, zst_n b, zst_n a], fun p p1 p2 => ?_, fun p hp => ?_⟩
      · by_cases e : p = i
        · subst e
          obtain ⟨q1, q2⟩ := h4 p (by omega)
          rw [q1, q2, zst_n (by decide), zst_ss, zst_ss, zst_n (by decide)]
          exact ⟨rfl, rfl⟩
        · obtain ⟨q1, q2⟩ := h3 p (by omega) p2
          rw [q1, q2, zst_n (by decide), zst_n (by decide), zst_n (by decide), zst_n (by decide)]
          exact ⟨rfl, rfl⟩
      · obtain ⟨q1, q2⟩ := h4 p (by omega)
        rw [q1, q2, zst_n (by decide), zst_sn (by omega), zst_sn (by omega), zst_n (by decide)]
        exact ⟨rfl, rfl⟩
theorem keep_x {n c : Nat} {σ : zMem} (hn : 6 < n) (hc : σ 0 5 = nI c) (h6 : c ≤ 6) : ∃ σ', FX10_keep n σ = some (0, σ') ∧ mD c σ σ' ∧ ∀ o, o ≠ 11 → o ≠ 12 → σ' o = σ o := by
  obtain ⟨σ', h1, h2, h3, h4⟩ := keep_lx (n := n) h6 n c 0 σ hc (by omega) (by omega)
  exact ⟨σ', h1, ⟨fun k hk => by rw [h2 0 (by decide) (by decide)], fun o ho => h2 o (by omega) (by omega), fun p hp => by rw [h2 6 (by decide) (by decide), h2 7 (by decide) (by decide)]; exact ⟨rfl, rfl⟩, fun p hp => h3 p (by omega) hp⟩, h2⟩
theorem putBack_lx {n c : Nat} (h6 : c ≤ 6) : ∀ f k i (σ : zMem), σ 0 5 = nI c → i + k = c → k < f → ∃ σ', zlp (LX10_putBack_2 n) f (σ, nI i) = some (0, σ') ∧ (∀ o, o ≠ 6 → o ≠ 7 → σ' o = σ o) ∧ (∀ p, i ≤ p → p < c → σ' 6 p = σ 11 p ∧ σ' 7 p = σ 12 p) ∧ (∀ p, p < i ∨ c ≤ p → σ' 6 p = σ 6 p ∧ σ' 7 p = σ 7 p) := by
  intro f
  induction f with
  | zero => intro k i σ _ _ h; omega
  | succ f ih =>
    intro k i σ hc hk hf
    rw [zlp_n]
    show ∃ σ', LBX10_putBack_2 n _ σ (nI i) = _ ∧ _
    unfold LBX10_putBack_2
    rw [hc]
    cases k with
    | zero => exact ⟨σ, by rw [zif_pos (nI_le (by omega) (by omega))], fun _ _ _ => rfl, fun p h1 h2 => by omega, fun _ _ => ⟨rfl, rfl⟩⟩
    | succ k =>
      rw [zif_neg (nI_ge (by omega) (by omega)), zgd_in (show i < 6 by omega) (by decide), zgd_in (show i < 6 by omega) (by decide), zlet_s, zgd_in (show i < 6 by omega) (by decide), zgd_in (show i < 6 by omega) (by decide), zlet_s, zcl (by omega), nI_1]
      obtain ⟨σ', h1, h2, h3, h4⟩ := ih k (i + 1) (zst (zst σ 6 i (σ 11 i)) 7 i (zst σ 6 i (σ 11 i) 12 i)) (by rw [zst_n (by decide), zst_n (by decide)]; exact hc) (by omega) (by omega)
      refine ⟨σ', h1, fun o a b => by rw [h2 o a b, zst_n b, zst_n a], fun p p1 p2 => ?_, fun p hp => ?_⟩
      · by_cases e : p = i
        · subst e
          obtain ⟨q1, q2⟩ := h4 p (by omega)
          rw [q1, q2, zst_n (by decide), zst_ss, zst_ss, zst_n (by decide)]
          exact ⟨rfl, rfl⟩
        · obtain ⟨q1, q2⟩ := h3 p (by omega) p2
          rw [q1, q2, zst_n (by decide), zst_n (by decide), zst_n (by decide), zst_n (by decide)]
          exact ⟨rfl, rfl⟩
      · obtain ⟨q1, q2⟩ := h4 p (by omega)
        rw [q1, q2, zst_n (by decide), zst_sn (by omega), zst_sn (by omega), zst_n (by decide)]
        exact ⟨rfl, rfl⟩
theorem putBack_x {n c : Nat} {σ0 σ : zMem} (hn : 6 < n) (hc : σ 0 5 = nI c) (h6 : c ≤ 6) (hD : mD c σ0 σ) : ∃ σ', FX10_putBack n σ = some (0, σ') ∧ mK σ0 σ' ∧ ∀ o, o ≠ 6 → o ≠ 7 → σ' o = σ o := by
  obtain ⟨σ', h1, h2, h3, h4⟩ := putBack_lx (n := n) h6 n c 0 σ hc (by omega) (by omega)
  refine ⟨σ', h1, ⟨fun k hk => by rw [h2 0 (by decide) (by decide)]; exact hD.1 k hk, fun o ho => ?_⟩, h2⟩
  by_cases e6 : o = 6
  · subst e6
    funext p
    rcases Nat.lt_or_ge p c with q | q
    · rw [(h3 p (by omega) q).1]; exact (hD.2.2.2 p q).1
    · rw [(h4 p (Or.inr q)).1]; exact (hD.2.2.1 p q).1
  by_cases e7 : o = 7
  · subst e7
    funext p
    rcases Nat.lt_or_ge p c with q | q
    · rw [(h3 p (by omega) q).2]; exact (hD.2.2.2 p q).2
    · rw [(h4 p (Or.inr q)).2]; exact (hD.2.2.1 p q).2
  · rw [h2 o e6 e7]
    exact hD.2.1 o (by omega)
theorem mD_ask {c : Nat} {σ0 σ : zMem} {j : Nat} {v : Int32} (h : mD c σ0 σ) (hj : j < c) : mD c σ0 (zst σ 6 j v) := ⟨fun k hk => by rw [zst_n (by decide)]; exact h.1 k hk, fun o ho => by rw [zst_n (by omega)]; exact h.2.1 o ho, fun p hp => by rw [zst_sn (by omega), zst_n (by decide)]; exact h.2.2.1 p hp, fun p hp => by rw [zst_n (by decide), zst_n (by decide)]; exact h.2.2.2 p hp⟩
/-! ===== turn: counted, or played out ===== -/
def sA (a : Nat → Nat) (p : Nat) : Nat → Nat
  | 0 => 0
  | k + 1 => sA a p k + tA a k p
/-- what the first is -/
theorem fsF_is {a : Nat → Nat} {c : Nat} : ∀ k b i, i + k = c → b < i → (∀ q, q < i → a b ≤ a q ∧ (a b = a q → b ≤ q)) → ∀ q, q < c → a (fsF a k b i) ≤ a q ∧ (a (fsF a k b i) = a q → fsF a k b i ≤ q) := by
  intro k
  induction k with
  | zero => intro b i hi hb h q hq; exact h q (by omega)
  | succ k ih =>
    intro b i hi hb h
    unfold fsF
    by_cases e : a i < a b
    · rw [if_pos e]
      refine ih i (i + 1) (by omega) (by omega) (fun q hq => ?_)
      by_cases e2 : q = i
      · rw [e2]; exact ⟨Nat.le_refl _, fun _ => Nat.le_refl _⟩
      · have := h q (by omega)
        exact ⟨by omega, fun _ => by omega⟩
    · rw [if_neg e]
      refine ih b (i + 1) (by omega) (by omega) (fun q hq => ?_)
      by_cases e2 : q = i
      · rw [e2]; exact ⟨by omega, fun _ => by omega⟩
      · exact h q (by omega)
theorem fsN_is {a : Nat → Nat} {c : Nat} (h0 : 0 < c) : ∀ q, q < c → a (fsN a c) ≤ a q ∧ (a (fsN a c) = a q → fsN a c ≤ q) := fsF_is (c - 1) 0 1 (by omega) (by omega) (fun q hq => by rw [show q = 0 by omega]; exact ⟨Nat.le_refl _, fun _ => Nat.le_refl _⟩)
def upa (a : Nat → Nat) (f : Nat) : Nat → Nat := fun q => if q = f then a q + 1 else a q
theorem sA_0 {a : Nat → Nat} {c p : Nat} (h0 : 0 < c) (hp : p < c) (e : fsN a c = p) : ∀ k, k ≤ c → sA a p k = 0 := by
  intro k
  induction k with
  | zero => intro _; rfl
  | succ k ih =>
    intro hk
    unfold sA
    rw [ih (by omega)]
    obtain ⟨h1, h2⟩ := fsN_is (a := a) h0 k (by omega)
    rw [e] at h1 h2
    unfold tA
    split
    · have : a p ≠ a k := fun q => by have := h2 q; omega
      omega
    · omega
theorem tA_ne {a : Nat → Nat} {f q p : Nat} (hq : q ≠ f) (hp : p ≠ f) : tA (upa a f) q p = tA a q p := by
  unfold tA upa
  rw [if_neg hp, if_neg hq]
theorem sA_up {a : Nat → Nat} {c f p : Nat} (h0 : 0 < c) (hp : p < c) (e : fsN a c = f) (hne : p ≠ f) : ∀ k, k ≤ c → sA (upa a f) p k + (if f < k then 1 else 0) = sA a p k := by
  intro k
  induction k with
  | zero => intro _; rfl
  | succ k ih =>
    intro hk
    have ih := ih (by omega)
    unfold sA
    by_cases ek : k = f
    · subst ek
      rw [if_neg (Nat.lt_irrefl _)] at ih
      rw [if_pos (Nat.lt_succ_self _)]
      obtain ⟨h1, h2⟩ := fsN_is (a := a) h0 p hp
      rw [e] at h1 h2
      have t1 : tA (upa a k) k p + 1 = tA a k p := by
        unfold tA upa
        rw [if_neg hne, if_pos rfl]
        by_cases q : k < p
        · rw [if_pos q]; omega
        · rw [if_neg q]
          have : a k ≠ a p := fun z => by have := h2 z; omega
          omega
      omega
    · rw [tA_ne ek hne]
      by_cases q : f < k
      · rw [if_pos q] at ih
        rw [if_pos (by omega)]
        omega
      · rw [if_neg q] at ih
        rw [if_neg (by omega)]
        omega
theorem sA_step {a : Nat → Nat} {c f p : Nat} (h0 : 0 < c) (hp : p < c) (e : fsN a c = f) (hne : p ≠ f) : sA (upa a f) p c + 1 = sA a p c := by
  have := sA_up h0 hp e hne c (Nat.le_refl _)
  rw [if_pos (by rw [← e]; exact fsN_lt h0)] at this
  exact this
theorem sA_le {a : Nat → Nat} {p T : Nat} (h : a p ≤ T) : ∀ k, sA a p k ≤ k * (T + 1) := by
  intro k
  induction k with
  | zero => exact Nat.zero_le _
  | succ k ih =>
    unfold sA
    rw [Nat.succ_mul]
    have : tA a k p ≤ T + 1 := by unfold tA; split <;> omega
    omega
theorem ahead_lx {n w c p : Nat} {σ : zMem} {a : Nat → Nat} (hc : σ w 2 = nI c) (h6 : c ≤ 6) (hv : ∀ p, p < 6 → σ (w + 3 + p) 1 = nI (a p)) (ha : ∀ p, p < 6 → a p < 2 ^ 20) (hp : p < 6) : ∀ f k q, q + k = c → k < f → zlp (LX4_questionsAheadOf_4 n w) f (σ, nI p, nI (sA a p q), nI q) = some (nI (sA a p c), σ) := by
  intro f
  induction f with
  | zero => intro k q _ h; omega
  | succ f ih =>
    intro k q hk hf
    rw [zlp_n]
    show LBX4_questionsAheadOf_4 n w _ σ (nI p) (nI (sA a p q)) (nI q) = _
    unfold LBX4_questionsAheadOf_4
    rw [hc]
    cases k with
    | zero => rw [zif_pos (nI_le (by omega) (by omega)), show q = c by omega]
    | succ k =>
      rw [zif_neg (nI_ge (by omega) (by omega)), timesAhead_x hv ha (show q < 6 by omega) hp, zbd_s, nI_1, nI_add]
      exact ih k (q + 1) (by omega) (by omega)
theorem ahead_x {n w c p : Nat} {σ : zMem} {a : Nat → Nat} (hn : 6 < n) (hc : σ w 2 = nI c) (h6 : c ≤ 6) (hv : ∀ p, p < 6 → σ (w + 3 + p) 1 = nI (a p)) (ha : ∀ p, p < 6 → a p < 2 ^ 20) (hp : p < 6) : FX4_questionsAheadOf n w σ (nI p) = some (nI (sA a p c), σ) := ahead_lx hc h6 hv ha hp n c 0 (by omega) (by omega)
theorem upa_mem {σ : zMem} {a : Nat → Nat} {f : Nat} (hv : ∀ p, p < 6 → σ 6 p = nI (a p)) : ∀ p, p < 6 → zst σ 6 f (nI (a f + 1)) 6 p = nI (upa a f p) := by
  intro p hp
  unfold upa
  by_cases e : p = f
  · subst e
    rw [zst_ss, if_pos rfl]
  · rw [zst_sn e, if_neg e]
    exact hv p hp
theorem mturn_lx {n c p : Nat} {σ0 : zMem} (hn : 6 < n) (h6 : c ≤ 6) (hp : p < c) : ∀ s f (σ : zMem) (a : Nat → Nat) (cnt : Nat), sA a p c = s → s < f → σ 0 5 = nI c → mD c σ0 σ → (∀ p, p < 6 → σ 6 p = nI (a p)) → (∀ p, p < 6 → a p + s < 2 ^ 31) → ∃ σ', zlp (LX10_turn_21 n) f (σ, nI p, nI cnt, nI (fsN a c)) = some (nI (cnt + s), σ') ∧ mK σ0 σ' := by
  intro s
  induction s with
  | zero =>
    intro f σ a cnt hs hf hc hD hv ha
    obtain ⟨f, rfl⟩ : ∃ g, f = g + 1 := ⟨f - 1, by omega⟩
    rw [zlp_n]
    show ∃ σ', LBX10_turn_21 n _ σ (nI p) (nI cnt) (nI (fsN a c)) = _ ∧ _
    unfold LBX10_turn_21
    have e : fsN a c = p := by
      rcases Nat.decEq (fsN a c) p with q | q
      · have := sA_step (a := a) (c := c) (p := p) (by omega) hp rfl (fun z => q z.symm)
        omega
      · exact q
    obtain ⟨σ', g1, g2, g3⟩ := putBack_x hn hc h6 hD
    exact ⟨σ', by rw [e, zif_pos rfl, g1, zbd_s]; rfl, g2⟩
  | succ s ih =>
    intro f σ a cnt hs hf hc hD hv ha
    obtain ⟨f, rfl⟩ : ∃ g, f = g + 1 := ⟨f - 1, by omega⟩
    rw [zlp_n]
    show ∃ σ', LBX10_turn_21 n _ σ (nI p) (nI cnt) (nI (fsN a c)) = _ ∧ _
    unfold LBX10_turn_21
    have hfl := fsN_lt (a := a) (c := c) (by omega)
    have e : fsN a c ≠ p := fun q => by
      have := sA_0 (a := a) (c := c) (by omega) hp q c (Nat.le_refl _)
      omega
    have hst := sA_step (a := a) (c := c) (p := p) (by omega) hp rfl (fun z => e z.symm)
    have hv' := upa_mem (f := fsN a c) hv
    have hs6 : fsN a c < 6 := by omega
    rw [zif_neg (nI_ne (by omega) (by omega) e), zgd_in hs6 (by decide), zgd_in hs6 (by decide), zlet_s, zcl (by omega), hv _ hs6, nI_1, nI_1, firstOf_x hn (by rw [zst_n (by decide)]; exact hc) h6 (by omega) hv' (fun q hq => by have := ha q hq; unfold upa; split <;> omega), zbd_s]
    obtain ⟨σ', g1, g2⟩ := ih f (zst σ 6 (fsN a c) (nI (a (fsN a c) + 1))) (upa a (fsN a c)) (cnt + 1) (by omega) (by omega) (by rw [zst_n (by decide)]; exact hc) (mD_ask hD hfl) hv' (fun q hq => by have := ha q hq; unfold upa; split <;> omega)
    exact ⟨σ', by rw [g1, show cnt + 1 + s = cnt + (s + 1) by omega], g2⟩
theorem turn_e (n t : Nat) (hn : 6000 < n) (ht : t < 600) (p1 : Int32) : zE t (fun σ => FX9_turn n σ p1) (fun σ => FX10_turn n σ p1) := by
  intro σx σm h
  obtain ⟨u, c, so, sn, ce, rc, rd, qs, br, ft, tr, hX, hM, hI⟩ := id h
  have hc : c < 2 ^ 31 := by have := hI.2.1; omega
  rcases z_cs p1 c hc with ⟨j, hj, rfl⟩ | ho
  · have hc6 : c ≤ 6 := by have := hI.2.1; omega
    have hj6 : j < 6 := by omega
    obtain ⟨σ1, k1, k2, k3⟩ := keep_x (n := n) (by omega) hM.1.1 hc6
    have c1 : σ1 0 5 = nI c := by rw [k3 0 (by decide) (by decide)]; exact hM.1.1
    have v1 : ∀ p, p < 6 → σ1 6 p = nI (u 1 p) := fun p hp => by rw [k3 6 (by decide) (by decide)]; exact hM.2.1.1 p hp 1 (by decide)
    have hS := sA_le (a := u 1) (p := j) (hI.1.1 j hj6).2.1 c
    have hS2 : sA (u 1) j c ≤ 6 * (9 + t + 1) := Nat.le_trans hS (Nat.mul_le_mul_right _ hc6)
    obtain ⟨σ2, g1, g2⟩ := mturn_lx (n := n) (by omega) hc6 hj (sA (u 1) j c) n σ1 (u 1) 0 rfl (by omega) c1 k2 v1 (fun p hp => by have := (hI.1.1 p hp).2.1; omega)
    refine ⟨nI (sA (u 1) j c), σx, σ2, ?_, ?_, zR_K h xK.rf g2⟩
    · show FX9_turn n σx _ = _
      unfold FX9_turn
      rw [hasPerson_in hX.1.1 hj hc, zbd_s, zif_neg (by decide), ahead_x (by omega) hX.1.1 hc6 (fun p hp => hX.2.1.1 p hp 1 (by decide)) (aB2 hI.1 (by omega)) hj6, zbd_s]
    · show FX10_turn n σm _ = _
      unfold FX10_turn
      rw [isPerson_in hM.1.1 hj hc, zbd_s, zif_neg (by decide), k1, zbd_s, firstOf_x (by omega) c1 hc6 (by omega) v1 (aB hI.1 (by omega)), zbd_s, show zlp (LX10_turn_21 n) n (σ1, nI j, 0, nI (fsN (u 1) c)) = _ from g1, Nat.zero_add]
  · refine ⟨-1, σx, σm, ?_, ?_, zR_next h⟩
    · show FX9_turn n σx _ = _
      unfold FX9_turn
      rw [hasPerson_out hX.1.1 ho, zbd_s, zif_pos rfl]
    · show FX10_turn n σm _ = _
      unfold FX10_turn
      rw [isPerson_out hM.1.1 ho, zbd_s, zif_pos rfl]
