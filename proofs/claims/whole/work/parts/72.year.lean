/-! ===== what the machine has against taking cells ===== -/
abbrev inR (L : Nat) (i m : Int32) : Prop := ¬ i < 0 ∧ ¬ nI L < i ∧ ¬ m < 0 ∧ ¬ nI L - i < m
def rfN (so sn : Nat → Nat) (k a : Nat) (i m : Int32) : Int32 := if so k = 0 then 1 else if so k - 1 = a then (if inR (sn k) i m then 0 else 3) else 2
theorem rowFault_x {n k a : Nat} {σ : zMem} {so sn : Nat → Nat} {ce : Nat → Nat → Int32} {i m : Int32} (hS : xS σ so sn ce) (hk : k < 4) (ha : a < 3) (hs : so k ≤ 3) : FX9_rowFault n (2 + k) σ (nI a) i m = some (rfN so sn k a i m, σ) := by
  obtain ⟨x1, x2, x3, x4⟩ := hS k hk
  unfold FX9_rowFault FX6_faultAs rfN
  rw [x1]
  by_cases e : so k = 0
  · rw [if_pos e, zif_pos rfl, zbd_s, zif_neg (by decide), if_pos e]
  · rw [if_neg e, zif_neg (by decide), x2 e, if_neg e]
    by_cases e2 : so k - 1 = a
    · rw [zif_pos (by rw [e2]), zbd_s, zif_pos rfl, if_pos e2]
      by_cases e3 : inR (sn k) i m
      · rw [holds_t x3 e3, zbd_s, zif_neg (by decide), if_pos e3]
      · rw [holds_f x3 e3, zbd_s, zif_pos rfl, if_neg e3]
    · rw [zif_neg (nI_ne (by omega) (by omega) e2), zbd_s, zif_neg (by decide), if_neg e2]
theorem against_x {n k a : Nat} {σ : zMem} {so sn : Nat → Nat} {ce : Nat → Nat → Int32} {i m : Int32} (hS : mS σ so sn ce) (hk : k < 4) (ha : a < 3) (hs : so k ≤ 3) (hm : ¬ m < 0) : FX10_against n σ (nI k) (nI a) i m = some (rfN so sn k a i m, σ) := by
  obtain ⟨m1, m2, m3⟩ := hS k hk
  have ck : (nI k).toNatClampNeg = k := zcl (by omega)
  unfold FX10_against BX10_against_23 BX10_against_70 rfN
  rw [zgd_in hk (by decide), ck, m1]
  by_cases e : so k = 0
  · rw [if_pos e, zif_pos rfl, zgd_n hk (by decide), zif_pos rfl, if_pos e]
  · have ne := so_ne hs e
    rw [if_neg e, zif_neg ne, zgd_n hk (by decide), if_neg e]
    by_cases e2 : so k - 1 = a
    · rw [zif_pos (by rw [e2]), zgd_n hk (by decide), zif_neg ne, zif_pos (Int32.not_lt.mp hm), if_pos e2, zgd_n hk (by decide), m2, zgd_n hk (by decide)]
      by_cases q1 : i < 0
      · rw [zif_pos q1, if_neg (fun z => z.1 q1)]
      by_cases q2 : nI (sn k) < i
      · rw [zif_neg q1, zif_pos q2, if_neg (fun z => z.2.1 q2)]
      by_cases q3 : m ≤ nI (sn k) - i
      · rw [zif_neg q1, zif_neg q2, zif_pos q3, if_pos ⟨q1, q2, hm, Int32.not_lt.mpr q3⟩]
      · rw [zif_neg q1, zif_neg q2, zif_neg q3, if_neg (fun z => q3 (Int32.not_lt.mp z.2.2.2))]
    · rw [zif_neg (nI_ne (by omega) (by omega) e2), if_neg e2]
theorem rfN_0 {so sn : Nat → Nat} {k a : Nat} {i m : Int32} (hs : sn k ≤ 60) (h : rfN so sn k a i m = 0) : ∃ b c, i = nI b ∧ m = nI c ∧ b + c ≤ sn k := by
  unfold rfN at h
  split at h
  · exact absurd h (by decide)
  · split at h
    · split at h
      · rename_i q; exact holds_n hs q
      · exact absurd h (by decide)
    · exact absurd h (by decide)
/-! ===== years: what a told year may ask for ===== -/
theorem z_csL (x : Int32) : (∃ j, j < 6 ∧ x = nI (10 + j)) ∨ (x < 10 ∨ 16 ≤ x) := by
  rcases pk_ix x (show 16 < 2 ^ 31 by decide) with h | h | ⟨j, hj, rfl⟩
  · exact Or.inr (Or.inl (Int32.lt_of_lt_of_le h (by decide)))
  · exact Or.inr (Or.inr h)
  · by_cases e : j < 10
    · exact Or.inr (Or.inl (nI_lt (b := 10) e (by decide)))
    · exact Or.inl ⟨j - 10, by omega, by rw [show 10 + (j - 10) = j by omega]⟩
theorem isLearner_in {n j : Nat} {σ : zMem} (h : j < 6) : FX8_isLearner n σ (nI (10 + j)) = some (1, σ) := by
  unfold FX8_isLearner
  rw [zif_neg (show ¬ nI (10 + j) < 10 from nI_nlt (b := 10) (by omega) (by omega)), zif_neg (show ¬ (16 : Int32) ≤ nI (10 + j) from nI_ge (b := 16) (by omega) (by decide))]
theorem isLearner_out {n : Nat} {σ : zMem} {x : Int32} (h : x < 10 ∨ 16 ≤ x) : FX8_isLearner n σ x = some (0, σ) := by
  unfold FX8_isLearner
  by_cases e : x < 10
  · rw [zif_pos e]
  · rw [zif_neg e, zif_pos (h.resolve_left e)]
theorem wL_in {n j : Nat} {σ : zMem} (h : j < 6) : FX10_within n σ (nI (10 + j)) 10 15 = some (1, σ) := within_in (a := 10) (b := 15) (by omega) (by omega) (by decide)
theorem wL_out {n : Nat} {σ : zMem} {x : Int32} (h : x < 10 ∨ 16 ≤ x) : FX10_within n σ x 10 15 = some (0, σ) := within_out (h.elim Or.inl (fun q => Or.inr (Int32.lt_of_lt_of_le (by decide) q)))
theorem tells_t {n : Nat} {σ : zMem} {x : Int32} (h : (∃ j, j < 5 ∧ x = nI j) ∨ ∃ j, j < 6 ∧ x = nI (10 + j)) : FX8_tells n σ x = some (1, σ) := by
  unfold FX8_tells BX8_tells_15
  rcases h with ⟨j, hj, rfl⟩ | ⟨j, hj, rfl⟩
  · rw [li_5, isBelow_in hj (by decide), zbd_s, zif_neg (by decide)]
  · rw [li_5, isBelow_out (Or.inr (nI_le (by omega) (by omega))), zbd_s, zif_pos rfl, isLearner_in hj, zbd_s, zif_neg (by decide)]
theorem tells_f {n : Nat} {σ : zMem} {x : Int32} (h1 : x < 0 ∨ nI 5 ≤ x) (h2 : x < 10 ∨ 16 ≤ x) : FX8_tells n σ x = some (0, σ) := by
  unfold FX8_tells
  rw [li_5, isBelow_out h1, zbd_s, zif_pos rfl, isLearner_out h2, zbd_s, zif_pos rfl]
/-- what is against a pair: 0 nothing -/
def rpN (c : Nat) (x y : Int32) : Int32 := if y = 0 then (if ¬ x < 0 ∧ ¬ nI 3 ≤ x then 0 else -1) else if y = 1 then (if ¬ x < 0 ∧ ¬ nI c ≤ x then 0 else -1) else if ¬ y < 10 ∧ ¬ 16 ≤ y then (if ¬ x < 0 ∧ ¬ nI 8 ≤ x then 0 else -2) else -2
theorem z_nn {x : Int32} {c : Nat} (hc : c < 2 ^ 31) (h : ¬ x < 0 ∧ ¬ nI c ≤ x) : ∃ j, j < c ∧ x = nI j := (z_cs x c hc).resolve_right (fun q => q.elim h.1 h.2)
theorem z_no {x : Int32} {c : Nat} (h : ¬ (¬ x < 0 ∧ ¬ nI c ≤ x)) : x < 0 ∨ nI c ≤ x := by
  by_cases e : x < 0
  · exact Or.inl e
  · by_cases e2 : nI c ≤ x
    · exact Or.inr e2
    · exact absurd ⟨e, e2⟩ h
theorem pairRefusal_x {n c w : Nat} {σ : zMem} {x y : Int32} (hc : σ w 2 = nI c) (h0 : 0 < c) (h6 : c ≤ 6) : FX8_pairRefusal n w σ x y = some (rpN c x y, σ) := by
  unfold FX8_pairRefusal rpN
  by_cases e0 : y = 0
  · rw [zif_pos e0, if_pos e0]
    by_cases q : ¬ x < 0 ∧ ¬ nI 3 ≤ x
    · obtain ⟨j, hj, rfl⟩ := z_nn (by decide) q
      rw [hasMatter_in hc hj h0 (by omega), zbd_s, zif_neg (by decide), if_pos q]
    · rw [hasMatter_out hc (Or.inr (z_no q)), zbd_s, zif_pos rfl, if_neg q]
  by_cases e1 : y = 1
  · rw [zif_neg e0, if_neg e0, zif_pos e1, if_pos e1]
    by_cases q : ¬ x < 0 ∧ ¬ nI c ≤ x
    · obtain ⟨j, hj, rfl⟩ := z_nn (by omega) q
      rw [hasPerson_in hc hj (by omega), zbd_s, zif_neg (by decide), if_pos q]
    · rw [hasPerson_out hc (z_no q), zbd_s, zif_pos rfl, if_neg q]
  · rw [zif_neg e0, if_neg e0, zif_neg e1, if_neg e1]
    rcases z_csL y with ⟨j, hj, rfl⟩ | ho
    · rw [isLearner_in hj, zbd_s, zif_neg (by decide), if_pos ⟨nI_nlt (b := 10) (by omega) (by omega), nI_ge (b := 16) (by omega) (by decide)⟩]
      by_cases q : ¬ x < 0 ∧ ¬ nI 8 ≤ x
      · obtain ⟨i, hi, rfl⟩ := z_nn (by decide) q
        rw [li_8, isBelow_in hi (by decide), zbd_s, zif_neg (by decide), if_pos q]
      · rw [li_8, isBelow_out (z_no q), zbd_s, zif_pos rfl, if_neg q]
    · rw [isLearner_out ho, zbd_s, zif_pos rfl, if_neg (fun z => ho.elim z.1 z.2)]
theorem refusesPair_x {n c : Nat} {σ : zMem} {x y : Int32} (hc : σ 0 5 = nI c) (h0 : 0 < c) (h6 : c ≤ 6) : FX10_refusesPair n σ x y = some (rpN c x y, σ) := by
  unfold FX10_refusesPair rpN BX10_refusesPair_22 BX10_refusesPair_39 BX10_refusesPair_55 BX10_refusesPair_72 BX10_refusesPair_68 BX10_refusesPair_73
  by_cases e0 : y = 0
  · subst e0
    rw [if_pos rfl, wL_out (by decide), zbd_s, show FX10_within n σ 0 0 1 = some (1, σ) from rfl, zbd_s, zif_neg (by decide), zif_pos rfl, zif_pos rfl, zif_pos rfl]
    by_cases q : ¬ x < 0 ∧ ¬ nI 3 ≤ x
    · obtain ⟨j, hj, rfl⟩ := z_nn (by decide) q
      rw [isMatter_in hc hj h0 (by omega), zbd_s, zif_neg (by decide), zif_neg (by decide), if_pos q]
    · rw [isMatter_out hc (Or.inr (z_no q)), zbd_s, zif_pos rfl, zif_neg (by decide), zif_pos rfl, if_neg q]
  by_cases e1 : y = 1
  · subst e1
    rw [if_neg e0, if_pos rfl, wL_out (by decide), zbd_s, show FX10_within n σ 1 0 1 = some (1, σ) from rfl, zbd_s, zif_neg (by decide), zif_pos rfl, zif_pos rfl, zif_neg (by decide), zif_pos rfl]
    by_cases q : ¬ x < 0 ∧ ¬ nI c ≤ x
    · obtain ⟨j, hj, rfl⟩ := z_nn (by omega) q
      rw [isPerson_in hc hj (by omega), zbd_s, zif_neg (by decide), zif_neg (by decide), if_pos q]
    · rw [isPerson_out hc (z_no q), zbd_s, zif_pos rfl, zif_pos rfl, if_neg q]
  · rw [if_neg e0, if_neg e1]
    rcases z_csL y with ⟨j, hj, rfl⟩ | ho
    · rw [wL_in hj, zbd_s, within_out (show nI (10 + j) < 0 ∨ 1 < nI (10 + j) from Or.inr (nI_lt (a := 1) (by omega) (by omega))), zbd_s, zif_pos rfl, zif_neg (by decide), zif_neg (by decide), if_pos ⟨nI_nlt (b := 10) (by omega) (by omega), nI_ge (b := 16) (by omega) (by decide)⟩]
      by_cases q : ¬ x < 0 ∧ ¬ nI 8 ≤ x
      · obtain ⟨i, hi, rfl⟩ := z_nn (by decide) q
        rw [show FX10_within n σ (nI i) 0 7 = some (1, σ) from within_in (a := 0) (b := 7) (by omega) (by omega) (by decide), zbd_s, zif_neg (by decide), zif_neg (by decide), zif_neg (by decide), if_pos q]
      · rw [within_out (show x < 0 ∨ 7 < x from z_cs' (b := 7) (by decide) (z_no q)), zbd_s, zif_pos rfl, if_neg q]
    · have h01 : y < 0 ∨ 1 < y := by
        rcases z_cs y 2 (by decide) with ⟨j, hj, rfl⟩ | q
        · rcases (show j = 0 ∨ j = 1 by omega) with rfl | rfl
          · exact absurd rfl e0
          · exact absurd rfl e1
        · exact z_cs' (b := 1) (by decide) q
      rw [wL_out ho, zbd_s, within_out h01, zbd_s, zif_pos rfl, zif_pos rfl, if_neg (fun z => ho.elim z.1 z.2)]
/-- the first refusal among k pairs from act on -/
def rqF (c : Nat) (xs ys : Nat → Int32) : Nat → Nat → Int32
  | 0, _ => 0
  | k + 1, a => if rpN c (xs a) (ys a) = 0 then rqF c xs ys k (a + 1) else rpN c (xs a) (ys a)
theorem rqF_0 {c : Nat} {xs ys : Nat → Int32} : ∀ k a, rqF c xs ys k a = 0 → ∀ i, a ≤ i → i < a + k → rpN c (xs i) (ys i) = 0 := by
  intro k
  induction k with
  | zero => intro a _ i h1 h2; omega
  | succ k ih =>
    intro a h i h1 h2
    unfold rqF at h
    by_cases e : rpN c (xs a) (ys a) = 0
    · rw [if_pos e] at h
      by_cases e2 : i = a
      · rw [e2]; exact e
      · exact ih (a + 1) h i (by omega) (by omega)
    · rw [if_neg e] at h
      exact absurd h e
theorem refusal_lx {n c w k b N : Nat} {σ : zMem} {ce : Nat → Nat → Int32} (hc : σ w 2 = nI c) (h0 : 0 < c) (h6 : c ≤ 6) (hk : k < 4) (hce : ∀ i, i < 60 → σ (2 + k + 4) i = ce k i) (hb : b + 2 * N ≤ 60) : ∀ f r a, a + r = N → r < f → zlp (LX8_refusal_3 n (2 + k) w) f (σ, nI b, nI N, nI a) = some (rqF c (fun i => ce k (b + 2 * i)) (fun i => ce k (b + 2 * i + 1)) r a, σ) := by
  intro f
  induction f with
  | zero => intro r a _ h; omega
  | succ f ih =>
    intro r a hr hf
    rw [zlp_n]
    show LBX8_refusal_3 n (2 + k) w _ σ (nI b) (nI N) (nI a) = _
    unfold LBX8_refusal_3
    cases r with
    | zero => rw [zif_pos (nI_le (by omega) (by omega))]; rfl
    | succ r =>
      rw [zif_neg (nI_ge (by omega) (by omega)), li_2, pk_mul, nI_add, nI_1 (b + 2 * a), zgd_in (show b + 2 * a < 60 by omega) (by decide), zgd_in (show b + 2 * a + 1 < 60 by omega) (by decide), zcl (by omega), zcl (by omega), hce _ (by omega), hce _ (by omega), pairRefusal_x hc h0 h6, zbd_s, nI_1]
      unfold rqF
      by_cases e : rpN c (ce k (b + 2 * a)) (ce k (b + 2 * a + 1)) = 0
      · rw [zif_pos e, if_pos e]
        exact ih r (a + 1) (by omega) (by omega)
      · rw [zif_neg e, if_neg e]
/-! ===== years: one act, a run of acts ===== -/
abbrev yS : Type := (Nat → Nat → Nat) × Int32 × Int32 × Int32
def yst (c : Nat) (s : yS) (x y : Int32) : Option yS :=
  if y = 0 then some (up2 s.1 1 (fsN (s.1 1) c) (s.1 1 (fsN (s.1 1) c) + 1), s.2.1 + nI (brN (up2 s.1 1 (fsN (s.1 1) c) (s.1 1 (fsN (s.1 1) c) + 1)) (fsN (s.1 1) c) x.toNatClampNeg), s.2.2.1 ||| ((1 : Int32) <<< (nI (fsN (s.1 1) c) &&& 31)), s.2.2.2 + (if (up2 s.1 1 (fsN (s.1 1) c) (s.1 1 (fsN (s.1 1) c) + 1) 2 (fsN (s.1 1) c)).testBit x.toNatClampNeg = true then 1 else 0))
  else if y = 1 then (if fsN (s.1 1) c = x.toNatClampNeg then some (up2 s.1 1 x.toNatClampNeg (s.1 1 x.toNatClampNeg + 1), s.2) else none)
  else if (y - 10).toNatClampNeg < c then some (up2 s.1 2 (y - 10).toNatClampNeg x.toNatClampNeg, s.2) else none
def yrF (c : Nat) (xs ys : Nat → Int32) : Nat → Nat → yS → yS × Int32
  | 0, _, s => (s, -9)
  | k + 1, a, s => match yst c s (xs a) (ys a) with
    | none => (s, nI a)
    | some s' => yrF c xs ys k (a + 1) s'
/-- the three kinds of pairs -/
theorem rp_cs {c : Nat} {x y : Int32} (h6 : c ≤ 6) (h : rpN c x y = 0) : (y = 0 ∧ ∃ m, m < 3 ∧ x = nI m) ∨ (y = 1 ∧ ∃ p, p < c ∧ x = nI p) ∨ ∃ j, j < 6 ∧ y = nI (10 + j) ∧ ∃ v, v < 8 ∧ x = nI v := by
  unfold rpN at h
  split at h
  · rename_i e
    split at h
    · rename_i q; exact Or.inl ⟨e, z_nn (by decide) q⟩
    · exact absurd h (by decide)
  · split at h
    · rename_i e
      split at h
      · rename_i q; exact Or.inr (Or.inl ⟨e, z_nn (by omega) q⟩)
      · exact absurd h (by decide)
    · split at h
      · rename_i q1
        split at h
        · rename_i q2
          rcases z_csL y with ⟨j, hj, e⟩ | ho
          · exact Or.inr (Or.inr ⟨j, hj, e, z_nn (by decide) q2⟩)
          · exact absurd ho (fun z => z.elim q1.1 q1.2)
        · exact absurd h (by decide)
      · exact absurd h (by decide)
theorem y10 {j : Nat} : nI (10 + j) - 10 = nI j := by rw [show (10 : Int32) = nI 10 from rfl, pk_sub (by omega), show 10 + j - 10 = j by omega]
theorem yst_B {c T : Nat} {s s' : yS} {x y : Int32} (h0 : 0 < c) (h6 : c ≤ 6) (hb : uB s.1 T) (h : rpN c x y = 0) (hs : yst c s x y = some s') : uB s'.1 (T + 1) := by
  have hf := fsN_lt (a := s.1 1) h0
  have hA := (hb.1 _ (show fsN (s.1 1) c < 6 by omega)).2.1
  unfold yst at hs
  rcases rp_cs h6 h with ⟨rfl, m, hm, rfl⟩ | ⟨rfl, p, hp, rfl⟩ | ⟨j, hj, rfl, v, hv, rfl⟩
  · rw [if_pos rfl] at hs
    cases hs
    exact uB_up (uB_mono hb (by omega)) ⟨fun e => by omega, fun e => by omega, fun e => by omega, fun e => by omega, fun e => by omega⟩
  · rw [if_neg (by decide), if_pos rfl, zcl (by omega)] at hs
    split at hs
    · cases hs
      have := (hb.1 p (by omega)).2.1
      exact uB_up (uB_mono hb (by omega)) ⟨fun e => by omega, fun e => by omega, fun e => by omega, fun e => by omega, fun e => by omega⟩
    · cases hs
  · have e0 : ¬ nI (10 + j) = 0 := nI_ne0 (by omega) (by omega)
    have e1 : ¬ nI (10 + j) = 1 := nI_ne (b := 1) (by omega) (by decide) (by omega)
    rw [if_neg e0, if_neg e1, y10, zcl (by omega), zcl (by omega)] at hs
    split at hs
    · cases hs
      exact uB_up (uB_mono hb (by omega)) ⟨fun e => by omega, fun e => by omega, fun e => by omega, fun e => by omega, fun e => by omega⟩
    · cases hs
def xY (c : Nat) (σ0 σ : zMem) (s : yS) (w : Int32) : Prop := xK σ0 σ ∧ σ 19 2 = nI c ∧ uV 19 σ s.1 ∧ σ 28 0 = s.2.1 ∧ σ 28 1 = s.2.2.1 ∧ σ 28 2 = s.2.2.2 ∧ σ 28 3 = w
theorem xY_per {c : Nat} {σ0 σ : zMem} {s : yS} {w : Int32} {f j v : Nat} (h : xY c σ0 σ s w) (hf : f < 4) (hj : j < 6) : xY c σ0 (zst σ (19 + 3 + j) f (nI v)) (up2 s.1 f j v, s.2) w := by
  obtain ⟨h1, h2, h3, h4, h5, h6, h7⟩ := h
  refine ⟨h1.st (by omega), ?_, uV_up h3 hf hj, ?_, ?_, ?_, ?_⟩
  · rw [zst_n (by omega)]; exact h2
  · rw [zst_n (by omega)]; exact h4
  · rw [zst_n (by omega)]; exact h5
  · rw [zst_n (by omega)]; exact h6
  · rw [zst_n (by omega)]; exact h7
theorem xY_28 {c : Nat} {σ0 σ : zMem} {s : yS} {w : Int32} (h : xY c σ0 σ s w) (k : Nat) (v : Int32) : xY c σ0 (zst σ 28 k v) (s.1, (if k = 0 then v else s.2.1), (if k = 1 then v else s.2.2.1), (if k = 2 then v else s.2.2.2)) (if k = 3 then v else w) := by
  obtain ⟨h1, h2, h3, h4, h5, h6, h7⟩ := h
  refine ⟨h1.st (by omega), ?_, uV_k h3 (fun o q1 q2 => zst_n (by omega)), ?_, ?_, ?_, ?_⟩
  · rw [zst_n (by omega)]; exact h2
  · by_cases e : k = 0
    · subst e; exact zst_ss
    · rw [zst_sn (fun q => e q.symm)]; simp only [if_neg e]; exact h4
  · by_cases e : k = 1
    · subst e; exact zst_ss
    · rw [zst_sn (fun q => e q.symm)]; simp only [if_neg e]; exact h5
  · by_cases e : k = 2
    · subst e; exact zst_ss
    · rw [zst_sn (fun q => e q.symm)]; simp only [if_neg e]; exact h6
  · by_cases e : k = 3
    · subst e; exact zst_ss
    · rw [zst_sn (fun q => e q.symm)]; simp only [if_neg e]; exact h7
theorem isDone_x {n c T : Nat} {σ0 σ : zMem} {s : yS} {x y w : Int32} (hn : 6 < n) (h0 : 0 < c) (h6 : c ≤ 6) (hT : T < 900) (hY : xY c σ0 σ s w) (hb : uB s.1 T) (h : rpN c x y = 0) : match yst c s x y with
    | some s' => ∃ σ', FX8_isDone n 28 19 σ x y = some (1, σ') ∧ xY c σ0 σ' s' w
    | none => FX8_isDone n 28 19 σ x y = some (0, σ) := by
  have hA : ∀ p, p < 6 → s.1 1 p < 2 ^ 31 := fun p hp => by have := (hb.1 p hp).2.1; omega
  have hf := fsN_lt (a := s.1 1) h0
  have fx := first_x (n := n) hn hY.2.1 h6 h0 (fun p hp => hY.2.2.1.1 p hp 1 (by decide)) hA
  have hB1 := fun s' (q : yst c s x y = some s') => yst_B h0 h6 hb h q
  unfold yst at hB1 ⊢
  unfold FX8_isDone BX8_isDone_25 BX8_isDone_52
  rcases rp_cs h6 h with ⟨rfl, m, hm, rfl⟩ | ⟨rfl, p, hp, rfl⟩ | ⟨j, hj, rfl, v, hv, rfl⟩
  · rw [if_pos rfl] at hB1 ⊢
    have hb' := hB1 _ rfl
    rw [zcl (show m < 2 ^ 31 by omega)] at hb' ⊢
    dsimp only at hb' ⊢
    generalize fsN (s.1 1) c = j at hf fx hb'
    have hj6 : j < 6 := by omega
    have x1 : σ (19 + 3 + j) 1 = nI (s.1 1 j) := hY.2.2.1.1 j hj6 1 (by decide)
    have Y1 := xY_per hY (f := 1) (v := s.1 1 j + 1) (by decide) hj6
    have Y2 : xY c σ0 _ (up2 s.1 1 j (s.1 1 j + 1), s.2.1 + nI (brN (up2 s.1 1 j (s.1 1 j + 1)) j m), s.2.2.1, s.2.2.2) w := xY_28 Y1 0 (s.2.1 + nI (brN (up2 s.1 1 j (s.1 1 j + 1)) j m))
    have Y3 : xY c σ0 _ (up2 s.1 1 j (s.1 1 j + 1), s.2.1 + nI (brN (up2 s.1 1 j (s.1 1 j + 1)) j m), s.2.2.1 ||| ((1 : Int32) <<< (nI j &&& 31)), s.2.2.2) w := xY_28 Y2 1 (s.2.2.1 ||| ((1 : Int32) <<< (nI j &&& 31)))
    have Y4 : xY c σ0 _ (up2 s.1 1 j (s.1 1 j + 1), s.2.1 + nI (brN (up2 s.1 1 j (s.1 1 j + 1)) j m), s.2.2.1 ||| ((1 : Int32) <<< (nI j &&& 31)), s.2.2.2 + 1) w := xY_28 Y3 2 (s.2.2.2 + 1)
    have k2 := (hb'.1 j hj6).2.2.1
    rw [zif_pos rfl]
    unfold FX8_ask
    rw [fx, zbd_s, zgd_in hj6 (by decide), zlet_s, zcl (by omega), x1, nI_1, bringing_x Y1.2.2.1 hb' hj6 hm, zbd_s, Y1.2.2.2.1, zlet_s, Y2.2.2.2.2.1, zlet_s, zgd_n hj6 (by decide), isKnowing_x (Y3.2.2.1.1 j hj6 2 (by decide)) k2 hm, zbd_s]
    by_cases e : (up2 s.1 1 j (s.1 1 j + 1) 2 j).testBit m = true
    · rw [if_pos e, zif_neg (by decide), Y3.2.2.2.2.2.1, zlet_s, zbd_s]
      exact ⟨_, rfl, Y4⟩
    · rw [if_neg e, zif_pos rfl, zbd_s]
      refine ⟨_, rfl, ?_⟩
      have := Y3
      rw [show s.2.2.2 + 0 = s.2.2.2 from Int32.add_zero _]
      exact this
  · rw [if_neg (by decide), if_pos rfl, zcl (show p < 2 ^ 31 by omega), zif_neg (by decide), zif_pos rfl, hasPerson_in hY.2.1 hp (by omega), zbd_s, zif_neg (by decide), zif_pos rfl, fx, zbd_s, zif_pos rfl]
    have hp6 : p < 6 := by omega
    by_cases e : fsN (s.1 1) c = p
    · rw [if_pos e]
      have x1 : σ (19 + 3 + p) 1 = nI (s.1 1 p) := hY.2.2.1.1 p hp6 1 (by decide)
      have Y1 := xY_per hY (f := 1) (v := s.1 1 p + 1) (by decide) hp6
      rw [zif_pos (by rw [e]), zgd_n hp6 (by decide), zlet_s, x1, nI_1]
      exact ⟨_, rfl, Y1⟩
    · rw [if_neg e]
      show zif (nI (fsN (s.1 1) c) = nI p) _ _ = _
      rw [zif_neg (nI_ne (by omega) (by omega) e)]
  · have e0 : ¬ nI (10 + j) = 0 := nI_ne0 (by omega) (by omega)
    have e1 : ¬ nI (10 + j) = 1 := nI_ne (b := 1) (by omega) (by decide) (by omega)
    rw [if_neg e0, if_neg e1, y10, zcl (show j < 2 ^ 31 by omega), zcl (show v < 2 ^ 31 by omega), zif_neg e0, zif_neg e1]
    by_cases e : j < c
    · rw [if_pos e]
      have Y1 := xY_per hY (f := 2) (v := v) (by decide) hj
      rw [hasPerson_in hY.2.1 e (by omega), zbd_s, zif_neg (by decide), zif_neg e1, zif_neg e1, zgd_n hj (by decide), zlet_s]
      exact ⟨_, rfl, Y1⟩
    · rw [if_neg e]
      show zbd (FX4_hasPerson n 19 σ (nI j)) _ = _
      rw [hasPerson_out hY.2.1 (Or.inr (nI_le (by omega) (by omega))), zbd_s, zif_pos rfl]
theorem go_lx {n c k b N : Nat} {σ0 : zMem} {ce : Nat → Nat → Int32} (hn : 6 < n) (h0 : 0 < c) (h6 : c ≤ 6) (hk : k < 4) (hce : ∀ i, i < 60 → σ0 (2 + k + 4) i = ce k i) (hb : b + 2 * N ≤ 60) (hp : ∀ i, i < N → rpN c (ce k (b + 2 * i)) (ce k (b + 2 * i + 1)) = 0) : ∀ f r a T (σ : zMem) (s : yS), a + r = N → r + 1 < f → T + r < 900 → uB s.1 T → xY c σ0 σ s (-9) → ∃ σ', zlp (LX8_go_24 n 28 (2 + k) 19) f (σ, nI b, nI N, nI a) = some (0, σ') ∧ xY c σ0 σ' (yrF c (fun i => ce k (b + 2 * i)) (fun i => ce k (b + 2 * i + 1)) r a s).1 (yrF c (fun i => ce k (b + 2 * i)) (fun i => ce k (b + 2 * i + 1)) r a s).2 ∧ uB (yrF c (fun i => ce k (b + 2 * i)) (fun i => ce k (b + 2 * i + 1)) r a s).1.1 (T + r) := by
  intro f
  induction f with
  | zero => intro r a T σ s _ h; omega
  | succ f ih =>
    intro r a T σ s hr hf hT hbs hY
    rw [zlp_n]
    show ∃ σ', LBX8_go_24 n 28 (2 + k) 19 _ σ (nI b) (nI N) (nI a) = _ ∧ _
    unfold LBX8_go_24
    cases r with
    | zero => exact ⟨σ, by rw [zif_pos (nI_le (by omega) (by omega))], hY, hbs⟩
    | succ r =>
      have c1 : σ (2 + k + 4) = σ0 (2 + k + 4) := hY.1 _ (by omega)
      rw [zif_neg (nI_ge (by omega) (by omega)), hY.2.2.2.2.2.2, zif_pos rfl, li_2, pk_mul, nI_add, nI_1 (b + 2 * a), zgd_in (show b + 2 * a < 60 by omega) (by decide), zgd_in (show b + 2 * a + 1 < 60 by omega) (by decide), zcl (by omega), zcl (by omega), c1, hce _ (by omega), hce _ (by omega), nI_1]
      have key := isDone_x hn h0 h6 (show T < 900 by omega) hY hbs (hp a (by omega))
      unfold yrF
      have hB := fun s' (q : yst c s (ce k (b + 2 * a)) (ce k (b + 2 * a + 1)) = some s') => yst_B h0 h6 hbs (hp a (by omega)) q
      revert key hB
      cases yst c s (ce k (b + 2 * a)) (ce k (b + 2 * a + 1)) with
      | some s' =>
        intro key hB
        obtain ⟨σ1, g1, g2⟩ := key
        rw [g1, zbd_s, zif_neg (by decide)]
        obtain ⟨σ', q1, q2, q3⟩ := ih r (a + 1) (T + 1) σ1 s' (by omega) (by omega) (by omega) (hB s' rfl) g2
        exact ⟨σ', q1, q2, uB_mono q3 (by omega)⟩
      | none =>
        intro key hB
        have Y1 := xY_28 hY 3 (nI a)
        have key : FX8_isDone n 28 19 σ (ce k (b + 2 * a)) (ce k (b + 2 * a + 1)) = some (0, σ) := key
        rw [key, zbd_s, zif_pos rfl, zlet_s]
        obtain ⟨f, rfl⟩ : ∃ g, f = g + 1 := ⟨f - 1, by omega⟩
        rw [zlp_n]
        refine ⟨zst σ 28 3 (nI a), ?_, Y1, uB_mono hbs (by omega)⟩
        show LBX8_go_24 n 28 (2 + k) 19 _ (zst σ 28 3 (nI a)) (nI b) (nI N) (nI (a + 1)) = _
        unfold LBX8_go_24
        by_cases e : N ≤ a + 1
        · rw [zif_pos (nI_le e (by omega))]
        · rw [zif_neg (nI_ge (by omega) (by omega)), zst_ss, zif_neg (nI_ne9 (by omega))]
