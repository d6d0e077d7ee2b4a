/-! ===== what a person says and brings, who is first: one number for both ===== -/
def sayN (u : Nat → Nat → Nat) (p : Nat) : Nat := if u 0 p = 1 then u 3 p + 1 else if u 0 p = 2 then 2 * u 3 p else u 3 p
def brN (u : Nat → Nat → Nat) (p m : Nat) : Nat := if (u 2 p).testBit m = true then sayN u p * u 4 m else sayN u p
theorem nI_is {a b : Nat} (ha : a < 2 ^ 31) (hb : b < 2 ^ 31) (h : a = b) : nI a = nI b := by rw [h]
theorem nI_ne {a b : Nat} (ha : a < 2 ^ 31) (hb : b < 2 ^ 31) (h : ¬ a = b) : ¬ nI a = nI b := fun q => h ((nI_eq ha hb).mp q)
theorem bit_x : ∀ k, k < 8 → ∀ m, m < 3 → decide (((nI k >>> (nI m &&& 31)) &&& 1) = 1) = k.testBit m := by decide +kernel
theorem bit_t {k m : Nat} (hk : k < 8) (hm : m < 3) (h : k.testBit m = true) : ((nI k >>> (nI m &&& 31)) &&& 1) = 1 := by
  have e := bit_x k hk m hm
  rw [h] at e
  exact of_decide_eq_true e
theorem bit_f {k m : Nat} (hk : k < 8) (hm : m < 3) (h : ¬ k.testBit m = true) : ¬ ((nI k >>> (nI m &&& 31)) &&& 1) = 1 := by
  have e := bit_x k hk m hm
  rw [Bool.eq_false_iff.mpr h] at e
  exact of_decide_eq_false e
theorem saying_x {n o p : Nat} {σ : zMem} {u : Nat → Nat → Nat} (h0 : σ o 0 = nI (u 0 p)) (h3 : σ o 3 = nI (u 3 p)) (hb : u 0 p < 3) : FX2_saying n o σ = some (nI (sayN u p), σ) := by
  unfold FX2_saying sayN
  rw [h0, h3, li_1, li_2]
  by_cases e1 : u 0 p = 1
  · rw [zif_pos (by rw [e1]), if_pos e1, nI_add]
  · rw [zif_neg (nI_ne (by omega) (by omega) e1), if_neg e1]
    by_cases e2 : u 0 p = 2
    · rw [zif_pos (by rw [e2]), if_pos e2, pk_mul]
    · rw [zif_neg (nI_ne (by omega) (by omega) e2), if_neg e2]
theorem isKnowing_x {n o p m : Nat} {σ : zMem} {u : Nat → Nat → Nat} (h2 : σ o 2 = nI (u 2 p)) (hb : u 2 p < 8) (hm : m < 3) : FX2_isKnowing n o σ (nI m) = some (if (u 2 p).testBit m = true then 1 else 0, σ) := by
  unfold FX2_isKnowing
  rw [h2]
  by_cases e : (u 2 p).testBit m = true
  · rw [zif_pos (bit_t hb hm e), if_pos e]
  · rw [zif_neg (bit_f hb hm e), if_neg e]
theorem isOf_x {n k m : Nat} {σ : zMem} (hb : k < 8) (hm : m < 3) : FX10_isOf n σ (nI k) (nI m) = some (if k.testBit m = true then 1 else 0, σ) := by
  unfold FX10_isOf
  by_cases e : k.testBit m = true
  · rw [zif_pos (bit_t hb hm e), if_pos e]
  · rw [zif_neg (bit_f hb hm e), if_neg e]
theorem bringing_x {n w p m T : Nat} {σ : zMem} {u : Nat → Nat → Nat} (hv : uV w σ u) (hb : uB u T) (hp : p < 6) (hm : m < 3) : FX4_bringing n w σ (nI p) (nI m) = some (nI (brN u p m), σ) := by
  obtain ⟨k1, k2, k3, k4⟩ := hb.1 p hp
  unfold FX4_bringing brN
  rw [zgd_in hp (by decide), zcl (by omega), saying_x (hv.1 p hp 0 (by decide)) (hv.1 p hp 3 (by decide)) k1, zbd_s, zgd_n hp (by decide), isKnowing_x (hv.1 p hp 2 (by decide)) k3 hm, zbd_s]
  by_cases e : (u 2 p).testBit m = true
  · rw [if_pos e, if_pos e, zif_neg (by decide), zgd_in hm (by decide), zcl (by omega), hv.2 m hm, pk_mul]
  · rw [if_neg e, if_neg e, zif_pos rfl]
theorem saysOf_x {n p T : Nat} {σ : zMem} {u : Nat → Nat → Nat} (hv : mV σ u) (hb : uB u T) (hp : p < 6) : FX10_saysOf n σ (nI p) = some (nI (sayN u p), σ) := by
  obtain ⟨k1, k2, k3, k4⟩ := hb.1 p hp
  have h0 : σ 5 p = nI (u 0 p) := hv.1 p hp 0 (by decide)
  have h3 : σ 8 p = nI (u 3 p) := hv.1 p hp 3 (by decide)
  unfold FX10_saysOf sayN
  simp only [zcl (show p < 2 ^ 31 by omega), zgd_n hp (show 6 < 2 ^ 31 by decide), h0, h3]
  by_cases e0 : u 0 p = 0
  · rw [zif_pos (by rw [e0]; rfl), if_neg (by omega), if_neg (by omega)]
  · rw [zif_neg (by rw [li_0]; exact nI_ne (by omega) (by omega) e0)]
    by_cases e1 : u 0 p = 1
    · rw [zif_pos (by rw [e1]; rfl), if_pos e1, li_1, nI_add]
    · rw [zif_neg (by rw [li_1]; exact nI_ne (by omega) (by omega) e1), if_neg e1, if_pos (by omega), li_2, pk_mul]
theorem bringsOf_x {n p m T : Nat} {σ : zMem} {u : Nat → Nat → Nat} (hv : mV σ u) (hb : uB u T) (hp : p < 6) (hm : m < 3) : FX10_bringsOf n σ (nI p) (nI m) = some (nI (brN u p m), σ) := by
  obtain ⟨k1, k2, k3, k4⟩ := hb.1 p hp
  have h2 : σ 7 p = nI (u 2 p) := hv.1 p hp 2 (by decide)
  unfold FX10_bringsOf brN
  rw [zgd_in hp (by decide), zcl (by omega), h2, isOf_x k3 hm, zbd_s]
  by_cases e : (u 2 p).testBit m = true
  · rw [if_pos e, if_pos e, zif_neg (by decide), saysOf_x hv hb hp, zbd_s, zgd_in hm (by decide), zcl (by omega), hv.2 m hm, pk_mul]
  · rw [if_neg e, if_neg e, zif_pos rfl, saysOf_x hv hb hp, zbd_s]
theorem sayN_le {u : Nat → Nat → Nat} {T p : Nat} (hb : uB u T) (hp : p < 6) : sayN u p ≤ 18 := by
  obtain ⟨k1, k2, k3, k4⟩ := hb.1 p hp
  unfold sayN
  split
  · omega
  · split <;> omega
theorem brN_le {u : Nat → Nat → Nat} {T p m : Nat} (hb : uB u T) (hp : p < 6) (hm : m < 3) : brN u p m ≤ 162 := by
  have h1 := sayN_le hb hp
  have h2 := hb.2 m hm
  unfold brN
  split
  · exact Nat.le_trans (Nat.mul_le_mul h1 (show u 4 m ≤ 9 by omega)) (by decide)
  · omega
/-- the search for the first: k more to look at, b the best of those ahead of i -/
def fsF (a : Nat → Nat) : Nat → Nat → Nat → Nat
  | 0, b, _ => b
  | k + 1, b, i => fsF a k (if a i < a b then i else b) (i + 1)
def fsN (a : Nat → Nat) (c : Nat) : Nat := fsF a (c - 1) 0 1
theorem fsF_lt {a : Nat → Nat} {c : Nat} : ∀ k b i, b < c → i + k ≤ c → fsF a k b i < c := by
  intro k
  induction k with
  | zero => intro b i hb _; exact hb
  | succ k ih =>
    intro b i hb hi
    unfold fsF
    split
    · exact ih i (i + 1) (by omega) (by omega)
    · exact ih b (i + 1) hb (by omega)
theorem fsN_lt {a : Nat → Nat} {c : Nat} (h : 0 < c) : fsN a c < c := fsF_lt _ _ _ h (by omega)
theorem first_lx {n w c : Nat} {σ : zMem} {a : Nat → Nat} (hc : σ w 2 = nI c) (h6 : c ≤ 6) (hv : ∀ p, p < 6 → σ (w + 3 + p) 1 = nI (a p)) (ha : ∀ p, p < 6 → a p < 2 ^ 31) : ∀ f k b i, b < 6 → i + k = c → k < f → zlp (LX4_first_4 n w) f (σ, nI b, nI i) = some (nI (fsF a k b i), σ) := by
  intro f
  induction f with
  | zero => intro k b i _ _ h; omega
  | succ f ih =>
    intro k b i hb hk hf
    rw [zlp_n]
    show LBX4_first_4 n w _ σ (nI b) (nI i) = _
    unfold LBX4_first_4
    rw [hc]
    cases k with
    | zero => rw [zif_pos (nI_le (by omega) (by omega))]; rfl
    | succ k =>
      rw [zif_neg (nI_ge (by omega) (by omega)), zgd_in (show i < 6 by omega) (by decide), zgd_in hb (by decide), zcl (show b < 2 ^ 31 by omega), zcl (show i < 2 ^ 31 by omega), hv b hb, hv i (by omega), nI_1]
      unfold fsF
      by_cases e : a i < a b
      · rw [zif_neg (nI_ge e (ha b hb)), if_pos e]
        exact ih k i (i + 1) (by omega) (by omega) (by omega)
      · rw [zif_pos (nI_le (by omega) (ha i (by omega))), if_neg e]
        exact ih k b (i + 1) hb (by omega) (by omega)
theorem first_x {n w c : Nat} {σ : zMem} {a : Nat → Nat} (hn : 6 < n) (hc : σ w 2 = nI c) (h6 : c ≤ 6) (h0 : 0 < c) (hv : ∀ p, p < 6 → σ (w + 3 + p) 1 = nI (a p)) (ha : ∀ p, p < 6 → a p < 2 ^ 31) : FX4_first n w σ = some (nI (fsN a c), σ) := by
  unfold FX4_first fsN
  rw [li_0, li_1]
  exact first_lx hc h6 hv ha n (c - 1) 0 1 (by decide) (by omega) (by omega)
theorem firstOf_lx {n c : Nat} {σ : zMem} {a : Nat → Nat} (hc : σ 0 5 = nI c) (h6 : c ≤ 6) (hv : ∀ p, p < 6 → σ 6 p = nI (a p)) (ha : ∀ p, p < 6 → a p < 2 ^ 31) : ∀ f k b i, b < 6 → i + k = c → k < f → zlp (LX10_firstOf_4 n) f (σ, nI b, nI i) = some (nI (fsF a k b i), σ) := by
  intro f
  induction f with
  | zero => intro k b i _ _ h; omega
  | succ f ih =>
    intro k b i hb hk hf
    rw [zlp_n]
    show LBX10_firstOf_4 n _ σ (nI b) (nI i) = _
    unfold LBX10_firstOf_4
    rw [hc]
    cases k with
    | zero => rw [zif_pos (nI_le (by omega) (by omega))]; rfl
    | succ k =>
      rw [zif_neg (nI_ge (by omega) (by omega)), zgd_in (show i < 6 by omega) (by decide), zgd_in hb (by decide), zcl (show b < 2 ^ 31 by omega), zcl (show i < 2 ^ 31 by omega), hv b hb, hv i (by omega), nI_1]
      unfold fsF
      by_cases e : a i < a b
      · rw [zif_neg (nI_ge e (ha b hb)), if_pos e]
        exact ih k i (i + 1) (by omega) (by omega) (by omega)
      · rw [zif_pos (nI_le (by omega) (ha i (by omega))), if_neg e]
        exact ih k b (i + 1) hb (by omega) (by omega)
theorem firstOf_x {n c : Nat} {σ : zMem} {a : Nat → Nat} (hn : 6 < n) (hc : σ 0 5 = nI c) (h6 : c ≤ 6) (h0 : 0 < c) (hv : ∀ p, p < 6 → σ 6 p = nI (a p)) (ha : ∀ p, p < 6 → a p < 2 ^ 31) : FX10_firstOf n σ = some (nI (fsN a c), σ) := by
  unfold FX10_firstOf fsN
  rw [li_0, li_1]
  exact firstOf_lx hc h6 hv ha n (c - 1) 0 1 (by decide) (by omega) (by omega)
/-! ==== writes to a person or a matter, on both sides ==== -/
theorem uV_up {w : Nat} {σ : zMem} {u : Nat → Nat → Nat} {f j v : Nat} (h : uV w σ u) (hf : f < 4) (hj : j < 6) : uV w (zst σ (w + 3 + j) f (nI v)) (up2 u f j v) := by
  refine ⟨fun p hp g hg => ?_, fun m hm => ?_⟩
  · by_cases e : p = j
    · subst e
      rw [zst_s]
      unfold upd up2
      by_cases e2 : g = f
      · rw [if_pos e2, if_pos ⟨e2, rfl⟩]
      · rw [if_neg e2, if_neg (fun q => e2 q.1)]
        exact h.1 p hp g hg
    · rw [zst_n (by omega)]
      unfold up2
      rw [if_neg (fun q => e q.2)]
      exact h.1 p hp g hg
  · rw [zst_n (by omega)]
    unfold up2
    rw [if_neg (by omega)]
    exact h.2 m hm
theorem uV_upW {w : Nat} {σ : zMem} {u : Nat → Nat → Nat} {j v : Nat} (h : uV w σ u) (hj : j < 3) : uV w (zst σ (w + 1) j (nI v)) (up2 u 4 j v) := by
  refine ⟨fun p hp g hg => ?_, fun m hm => ?_⟩
  · rw [zst_n (by omega)]
    unfold up2
    rw [if_neg (by omega)]
    exact h.1 p hp g hg
  · rw [zst_s]
    unfold upd up2
    by_cases e : m = j
    · rw [if_pos e, if_pos ⟨rfl, e⟩]
    · rw [if_neg e, if_neg (fun q => e q.2)]
      exact h.2 m hm
theorem mV_up {σ : zMem} {u : Nat → Nat → Nat} {f j v : Nat} (h : mV σ u) (hf : f < 4) (hj : j < 6) : mV (zst σ (5 + f) j (nI v)) (up2 u f j v) := by
  refine ⟨fun p hp g hg => ?_, fun m hm => ?_⟩
  · by_cases e : g = f
    · subst e
      rw [zst_s]
      unfold upd up2
      by_cases e2 : p = j
      · rw [if_pos e2, if_pos ⟨rfl, e2⟩]
      · rw [if_neg e2, if_neg (fun q => e2 q.2)]
        exact h.1 p hp g hg
    · rw [zst_n (by omega)]
      unfold up2
      rw [if_neg (fun q => e q.1)]
      exact h.1 p hp g hg
  · rw [zst_n (by omega)]
    unfold up2
    rw [if_neg (by omega)]
    exact h.2 m hm
theorem mV_upW {σ : zMem} {u : Nat → Nat → Nat} {j v : Nat} (h : mV σ u) (hj : j < 3) : mV (zst σ 4 j (nI v)) (up2 u 4 j v) := by
  refine ⟨fun p hp g hg => ?_, fun m hm => ?_⟩
  · rw [zst_n (by omega)]
    unfold up2
    rw [if_neg (by omega)]
    exact h.1 p hp g hg
  · rw [zst_s]
    unfold upd up2
    by_cases e : m = j
    · rw [if_pos e, if_pos ⟨rfl, e⟩]
    · rw [if_neg e, if_neg (fun q => e q.2)]
      exact h.2 m hm
theorem uB_up {u : Nat → Nat → Nat} {T f j v : Nat} (h : uB u T) (hf : (f = 0 → v < 3) ∧ (f = 1 → v ≤ T) ∧ (f = 2 → v < 8) ∧ (f = 3 → v < 10) ∧ (f = 4 → v < 10)) : uB (up2 u f j v) T := by
  refine ⟨fun p hp => ?_, fun m hm => ?_⟩
  · obtain ⟨k1, k2, k3, k4⟩ := h.1 p hp
    unfold up2
    refine ⟨?_, ?_, ?_, ?_⟩ <;> split <;> rename_i q <;> first | assumption | (have := q.1; omega)
  · have := h.2 m hm
    unfold up2
    split
    · rename_i q
      have := q.1
      omega
    · assumption
/-- the other things of the class, where a cell 0 or 10 .. 40 is written -/
theorem mC_k {σ σ' : zMem} {c : Nat} {qs br ft tr : Int32} (h : mC σ c qs br ft tr) (e : σ' 0 = σ 0) : mC σ' c qs br ft tr := by
  unfold mC
  rw [e]
  exact h
theorem mS_k {σ σ' : zMem} {so sn : Nat → Nat} {ce : Nat → Nat → Int32} (h : mS σ so sn ce) (e : ∀ o, 1 ≤ o → o < 4 → σ' o = σ o) : mS σ' so sn ce := by
  intro k hk
  rw [e 1 (by omega) (by omega), e 2 (by omega) (by omega), e 3 (by omega) (by omega)]
  exact h k hk
theorem mR_k {σ σ' : zMem} {rc : Nat} {rd : Nat → Nat → Nat} (h : mR σ rc rd) (e0 : σ' 0 28 = σ 0 28) (e : ∀ o, 17 ≤ o → o < 20 → σ' o = σ o) : mR σ' rc rd := by
  unfold mR
  rw [e0, e 17 (by omega) (by omega), e 18 (by omega) (by omega), e 19 (by omega) (by omega)]
  exact h
theorem mV_k {σ σ' : zMem} {u : Nat → Nat → Nat} (h : mV σ u) (e : ∀ o, 4 ≤ o → o < 9 → σ' o = σ o) : mV σ' u := ⟨fun p hp f hf => by rw [e _ (by omega) (by omega)]; exact h.1 p hp f hf, fun m hm => by rw [e _ (by omega) (by omega)]; exact h.2 m hm⟩
theorem zR_per {t : Nat} {σx σm : zMem} {u : Nat → Nat → Nat} {c : Nat} {so sn : Nat → Nat} {ce : Nat → Nat → Int32} {rc : Nat} {rd : Nat → Nat → Nat} {qs br ft tr : Int32} (hX : xC σx c qs br ft tr ∧ uV 10 σx u ∧ xS σx so sn ce ∧ xR σx rc rd) (hM : mC σm c qs br ft tr ∧ mV σm u ∧ mS σm so sn ce ∧ mR σm rc rd) (hI : uB u (9 + t) ∧ (c = 0 ∨ 2 ≤ c ∧ c ≤ 6) ∧ (∀ k, k < 4 → so k ≤ 3 ∧ sn k ≤ 60) ∧ rc ≤ 8 ∧ ∀ q, q < rc → rd 0 q < 6 ∧ rd 1 q < 3 ∧ rd 2 q ≤ 200) {f j v : Nat} (hf : f < 4) (hj : j < 6) (hv : (f = 0 → v < 3) ∧ (f = 1 → v ≤ 10 + t) ∧ (f = 2 → v < 8) ∧ (f = 3 → v < 10)) : zR (t + 1) (zst σx (13 + j) f (nI v)) (zst σm (5 + f) j (nI v)) := by
  obtain ⟨a1, a2, a3, a4⟩ := hX
  obtain ⟨b1, b2, b3, b4⟩ := hM
  obtain ⟨h3, h4⟩ := hI
  refine ⟨up2 u f j v, c, so, sn, ce, rc, rd, qs, br, ft, tr, ⟨xC_k a1 (fun o ho => zst_n (by omega)), uV_up a2 hf hj, xS_k a3 (fun o h1 h2 => zst_n (by omega)), xR_k a4 (fun o h1 h2 => zst_n (by omega))⟩, ⟨mC_k b1 (zst_n (by omega)), mV_up b2 hf hj, mS_k b3 (fun o h1 h2 => zst_n (by omega)), mR_k b4 (by rw [zst_n (by omega)]) (fun o h1 h2 => zst_n (by omega))⟩, uB_up (uB_mono h3 (by omega)) ⟨hv.1, fun e => by have := hv.2.1 e; omega, hv.2.2.1, hv.2.2.2, fun e => by omega⟩, h4⟩
theorem zR_mat {t : Nat} {σx σm : zMem} {u : Nat → Nat → Nat} {c : Nat} {so sn : Nat → Nat} {ce : Nat → Nat → Int32} {rc : Nat} {rd : Nat → Nat → Nat} {qs br ft tr : Int32} (hX : xC σx c qs br ft tr ∧ uV 10 σx u ∧ xS σx so sn ce ∧ xR σx rc rd) (hM : mC σm c qs br ft tr ∧ mV σm u ∧ mS σm so sn ce ∧ mR σm rc rd) (hI : uB u (9 + t) ∧ (c = 0 ∨ 2 ≤ c ∧ c ≤ 6) ∧ (∀ k, k < 4 → so k ≤ 3 ∧ sn k ≤ 60) ∧ rc ≤ 8 ∧ ∀ q, q < rc → rd 0 q < 6 ∧ rd 1 q < 3 ∧ rd 2 q ≤ 200) {j v : Nat} (hj : j < 3) (hv : v < 10) : zR (t + 1) (zst σx 11 j (nI v)) (zst σm 4 j (nI v)) := by
  obtain ⟨a1, a2, a3, a4⟩ := hX
  obtain ⟨b1, b2, b3, b4⟩ := hM
  obtain ⟨h3, h4⟩ := hI
  refine ⟨up2 u 4 j v, c, so, sn, ce, rc, rd, qs, br, ft, tr, ⟨xC_k a1 (fun o ho => zst_n (by omega)), uV_upW a2 hj, xS_k a3 (fun o h1 h2 => zst_n (by omega)), xR_k a4 (fun o h1 h2 => zst_n (by omega))⟩, ⟨mC_k b1 (zst_n (by omega)), mV_upW b2 hj, mS_k b3 (fun o h1 h2 => zst_n (by omega)), mR_k b4 (by rw [zst_n (by omega)]) (fun o h1 h2 => zst_n (by omega))⟩, uB_up (uB_mono h3 (by omega)) ⟨fun e => by omega, fun e => by omega, fun e => by omega, fun e => by omega, fun _ => hv⟩, h4⟩
