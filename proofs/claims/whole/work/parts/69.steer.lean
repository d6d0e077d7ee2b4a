/-! ===== steer ===== -/
theorem nI_ne9 {s : Nat} (h : s < 2 ^ 31) : ¬ nI s = -9 := by
  intro e
  have := congrArg Int32.toInt e
  rw [nI_toInt h, show ((-9 : Int32)).toInt = -9 from by decide] at this
  omega
def enc (r : Option Nat) : Int32 := match r with
  | none => -9
  | some s => nI s
/-- the least of S over those below p for whom K holds -/
def mnP (K : Nat → Bool) (S : Nat → Nat) (r : Option Nat) (p : Nat) : Prop := match r with
  | none => ∀ q, q < p → ¬ K q = true
  | some s => (∃ q, q < p ∧ K q = true ∧ S q = s) ∧ ∀ q, q < p → K q = true → s ≤ S q
theorem steer_lx {n w c m T : Nat} {σ : zMem} {u : Nat → Nat → Nat} (hn : 6 < n) (hc : σ w 2 = nI c) (h6 : c ≤ 6) (hv : uV w σ u) (hb : uB u T) (hT : T < 1000) (hm : m < 3) : ∀ f k acc p, mnP (fun q => (u 2 q).testBit m) (fun q => sA (u 1) q c) acc p → p + k = c → k < f → ∃ r, zlp (LX4_feintsTillKnown_5 n w) f (σ, nI m, enc acc, nI p) = some (enc r, σ) ∧ mnP (fun q => (u 2 q).testBit m) (fun q => sA (u 1) q c) r c := by
  intro f
  induction f with
  | zero => intro k acc p _ _ h; omega
  | succ f ih =>
    intro k acc p hacc hk hf
    rw [zlp_n]
    show ∃ r, LBX4_feintsTillKnown_5 n w _ σ (nI m) (enc acc) (nI p) = _ ∧ _
    unfold LBX4_feintsTillKnown_5
    rw [hc]
    cases k with
    | zero => exact ⟨acc, by rw [zif_pos (nI_le (by omega) (by omega))], by rw [show c = p by omega] at hacc ⊢; exact hacc⟩
    | succ k =>
      have hp : p < 6 := by omega
      have hS : ∀ q, q < 6 → sA (u 1) q c ≤ 6 * (T + 1) := fun q hq => Nat.le_trans (sA_le (hb.1 q hq).2.1 c) (Nat.mul_le_mul_right _ h6)
      have hSp := hS p hp
      rw [zif_neg (nI_ge (by omega) (by omega)), zgd_in hp (by decide), zcl (by omega), isKnowing_x (hv.1 p hp 2 (by decide)) (hb.1 p hp).2.2.1 hm, zbd_s, nI_1]
      by_cases e : (u 2 p).testBit m = true
      · rw [if_pos e, zif_neg (by decide), ahead_x hn hc h6 (fun p hp => hv.1 p hp 1 (by decide)) (aB2 hb hT) hp, zbd_s]
        cases acc with
        | none =>
          rw [show enc none = -9 from rfl, zif_pos rfl]
          refine ih k (some (sA (u 1) p c)) (p + 1) ⟨⟨p, by omega, e, rfl⟩, fun q hq hKq => ?_⟩ (by omega) (by omega)
          by_cases e2 : q = p
          · rw [e2]; exact Nat.le_refl _
          · exact absurd hKq (hacc q (by omega))
        | some s =>
          obtain ⟨⟨q0, hq0, hK0, hS0⟩, hmin⟩ := hacc
          have hs : s < 2 ^ 31 := by
            have := hS q0 (by omega)
            have hS0 : sA (u 1) q0 c = s := hS0
            omega
          rw [show enc (some s) = nI s from rfl, zif_neg (nI_ne9 hs)]
          by_cases e2 : sA (u 1) p c < s
          · rw [if_pos (nI_lt e2 hs)]
            refine ih k (some (sA (u 1) p c)) (p + 1) ⟨⟨p, by omega, e, rfl⟩, fun q hq hKq => ?_⟩ (by omega) (by omega)
            by_cases e3 : q = p
            · rw [e3]; exact Nat.le_refl _
            · have := hmin q (by omega) hKq
              show sA (u 1) p c ≤ sA (u 1) q c
              have : s ≤ sA (u 1) q c := this
              omega
          · rw [if_neg (nI_nlt (by omega) (by omega))]
            refine ih k (some s) (p + 1) ⟨⟨q0, by omega, hK0, hS0⟩, fun q hq hKq => ?_⟩ (by omega) (by omega)
            by_cases e3 : q = p
            · rw [e3]; show s ≤ sA (u 1) p c; omega
            · exact hmin q (by omega) hKq
      · rw [if_neg e, zif_pos rfl]
        refine ih k acc (p + 1) ?_ (by omega) (by omega)
        cases acc with
        | none =>
          intro q hq hKq
          by_cases e2 : q = p
          · rw [e2] at hKq; exact e hKq
          · exact hacc q (by omega) hKq
        | some s =>
          obtain ⟨⟨q0, hq0, hK0, hS0⟩, hmin⟩ := hacc
          refine ⟨⟨q0, by omega, hK0, hS0⟩, fun q hq hKq => ?_⟩
          by_cases e3 : q = p
          · rw [e3] at hKq; exact absurd hKq e
          · exact hmin q (by omega) hKq
theorem msteerA {n c m : Nat} {σ : zMem} (hc : σ 0 5 = nI c) (h6 : c ≤ 6) : ∀ f k p, p + k = c → k < f → zlp (LX10_steer_14 n) f (σ, nI m, 1, nI p) = zbd (FX10_keep n σ) (fun _ σ17 => zbd (FX10_firstOf n σ17) (fun r21 σ20 => zlp (LX10_steer_70 n) n (σ20, nI m, 1, 0, r21))) := by
  intro f
  induction f with
  | zero => intro k p _ h; omega
  | succ f ih =>
    intro k p hk hf
    rw [zlp_n]
    show LBX10_steer_14 n _ σ (nI m) 1 (nI p) = _
    unfold LBX10_steer_14 BX10_steer_39
    rw [hc]
    cases k with
    | zero => rw [zif_pos (nI_le (by omega) (by omega)), zif_neg (by decide)]
    | succ k =>
      rw [zif_neg (nI_ge (by omega) (by omega)), zif_neg (by decide), nI_1]
      exact ih k (p + 1) (by omega) (by omega)
theorem msteerB {n c m : Nat} {σ : zMem} {kn : Nat → Nat} (hc : σ 0 5 = nI c) (h6 : c ≤ 6) (hv : ∀ p, p < 6 → σ 7 p = nI (kn p)) (hk8 : ∀ p, p < 6 → kn p < 8) (hm : m < 3) : ∀ f k p, p + k = c → k < f → (∀ q, p ≤ q → q < c → ¬ (kn q).testBit m = true) → zlp (LX10_steer_14 n) f (σ, nI m, 0, nI p) = some (-9, σ) := by
  intro f
  induction f with
  | zero => intro k p _ h; omega
  | succ f ih =>
    intro k p hk hf hK
    rw [zlp_n]
    show LBX10_steer_14 n _ σ (nI m) 0 (nI p) = _
    unfold LBX10_steer_14 BX10_steer_39
    rw [hc]
    cases k with
    | zero => rw [zif_pos (nI_le (by omega) (by omega)), zif_pos rfl]
    | succ k =>
      rw [zif_neg (nI_ge (by omega) (by omega)), zif_pos rfl, zgd_in (show p < 6 by omega) (by decide), zcl (by omega), hv p (by omega), isOf_x (hk8 p (by omega)) hm, if_neg (hK p (by omega) (by omega)), zbd_s, zif_pos rfl, nI_1]
      exact ih k (p + 1) (by omega) (by omega) (fun q h1 h2 => hK q (by omega) h2)
theorem msteerC {n c m : Nat} {σ : zMem} {kn : Nat → Nat} (hc : σ 0 5 = nI c) (h6 : c ≤ 6) (hv : ∀ p, p < 6 → σ 7 p = nI (kn p)) (hk8 : ∀ p, p < 6 → kn p < 8) (hm : m < 3) : ∀ f k p, p + k = c → k < f → (∃ q, p ≤ q ∧ q < c ∧ (kn q).testBit m = true) → zlp (LX10_steer_14 n) f (σ, nI m, 0, nI p) = zbd (FX10_keep n σ) (fun _ σ17 => zbd (FX10_firstOf n σ17) (fun r21 σ20 => zlp (LX10_steer_70 n) n (σ20, nI m, 1, 0, r21))) := by
  intro f
  induction f with
  | zero => intro k p _ h; omega
  | succ f ih =>
    intro k p hk hf hK
    rw [zlp_n]
    show LBX10_steer_14 n _ σ (nI m) 0 (nI p) = _
    unfold LBX10_steer_14 BX10_steer_39
    rw [hc]
    obtain ⟨q, q1, q2, q3⟩ := hK
    cases k with
    | zero => omega
    | succ k =>
      rw [zif_neg (nI_ge (by omega) (by omega)), zif_pos rfl, zgd_in (show p < 6 by omega) (by decide), zcl (by omega), hv p (by omega), isOf_x (hk8 p (by omega)) hm, zbd_s, nI_1]
      by_cases e : (kn p).testBit m = true
      · rw [if_pos e, zif_neg (by decide)]
        exact msteerA hc h6 f k (p + 1) (by omega) (by omega)
      · rw [if_neg e, zif_pos rfl]
        refine ih k (p + 1) (by omega) (by omega) ⟨q, ?_, q2, q3⟩
        by_cases e2 : q = p
        · rw [e2] at q3; exact absurd q3 e
        · omega
theorem msteerS {n c m : Nat} {σ0 : zMem} {kn : Nat → Nat} (hn : 6 < n) (h6 : c ≤ 6) (hk8 : ∀ p, p < 6 → kn p < 8) (hm : m < 3) : ∀ s f (σ : zMem) (a : Nat → Nat) (cnt : Nat), (∃ p, p < c ∧ (kn p).testBit m = true ∧ sA a p c = s) → (∀ p, p < c → (kn p).testBit m = true → s ≤ sA a p c) → s < f → σ 0 5 = nI c → mD c σ0 σ → (∀ p, p < 6 → σ 6 p = nI (a p)) → (∀ p, p < 6 → σ 7 p = nI (kn p)) → (∀ p, p < 6 → a p + s < 2 ^ 31) → ∃ σ', zlp (LX10_steer_70 n) f (σ, nI m, 1, nI cnt, nI (fsN a c)) = some (nI (cnt + s), σ') ∧ mK σ0 σ' := by
  intro s
  induction s with
  | zero =>
    intro f σ a cnt hs hmin hf hc hD hv h7 ha
    obtain ⟨f, rfl⟩ : ∃ g, f = g + 1 := ⟨f - 1, by omega⟩
    obtain ⟨p, hp, hKp, hSp⟩ := hs
    rw [zlp_n]
    show ∃ σ', LBX10_steer_70 n _ σ (nI m) 1 (nI cnt) (nI (fsN a c)) = _ ∧ _
    unfold LBX10_steer_70
    have e : fsN a c = p := by
      rcases Nat.decEq (fsN a c) p with q | q
      · have := sA_step (a := a) (c := c) (p := p) (by omega) hp rfl (fun z => q z.symm)
        omega
      · exact q
    obtain ⟨σ', g1, g2, g3⟩ := putBack_x hn hc h6 hD
    exact ⟨σ', by rw [e, zgd_in (show p < 6 by omega) (by decide), zcl (by omega), h7 p (by omega), isOf_x (hk8 p (by omega)) hm, if_pos hKp, zbd_s, zif_neg (by decide), g1, zbd_s]; rfl, g2⟩
  | succ s ih =>
    intro f σ a cnt hs hmin hf hc hD hv h7 ha
    obtain ⟨f, rfl⟩ : ∃ g, f = g + 1 := ⟨f - 1, by omega⟩
    obtain ⟨p, hp, hKp, hSp⟩ := hs
    rw [zlp_n]
    show ∃ σ', LBX10_steer_70 n _ σ (nI m) 1 (nI cnt) (nI (fsN a c)) = _ ∧ _
    unfold LBX10_steer_70
    have hfl := fsN_lt (a := a) (c := c) (by omega)
    have hKf : ¬ (kn (fsN a c)).testBit m = true := fun q => by
      have h1 := hmin _ hfl q
      have h2 := sA_0 (a := a) (c := c) (by omega) hfl rfl c (Nat.le_refl _)
      omega
    have hstep : ∀ q, q < c → (kn q).testBit m = true → sA (upa a (fsN a c)) q c + 1 = sA a q c := fun q hq hKq => sA_step (by omega) hq rfl (fun z => by rw [z] at hKq; exact hKf hKq)
    have hv' := upa_mem (f := fsN a c) hv
    have hs6 : fsN a c < 6 := by omega
    have h1 := hstep p hp hKp
    rw [zgd_in hs6 (by decide), zcl (by omega), h7 _ hs6, isOf_x (hk8 _ hs6) hm, if_neg hKf, zbd_s, zif_pos rfl, zgd_n hs6 (by decide), zgd_n hs6 (by decide), zlet_s, hv _ hs6, nI_1, nI_1, firstOf_x hn (by rw [zst_n (by decide)]; exact hc) h6 (by omega) hv' (fun q hq => by have := ha q hq; unfold upa; split <;> omega), zbd_s]
    obtain ⟨σ', g1, g2⟩ := ih f (zst σ 6 (fsN a c) (nI (a (fsN a c) + 1))) (upa a (fsN a c)) (cnt + 1) ⟨p, hp, hKp, by omega⟩ (fun q hq hKq => by have := hstep q hq hKq; have := hmin q hq hKq; omega) (by omega) (by rw [zst_n (by decide)]; exact hc) (mD_ask hD hfl) hv' (fun q hq => by rw [zst_n (by decide)]; exact h7 q hq) (fun q hq => by have := ha q hq; unfold upa; split <;> omega)
    exact ⟨σ', by rw [g1, show cnt + 1 + s = cnt + (s + 1) by omega], g2⟩
theorem steer_e (n t : Nat) (hn : 6000 < n) (ht : t < 600) (p1 : Int32) : zE t (fun σ => FX9_steer n σ p1) (fun σ => FX10_steer n σ p1) := by
  intro σx σm h
  obtain ⟨u, c, so, sn, ce, rc, rd, qs, br, ft, tr, hX, hM, hI⟩ := id h
  have hc : c < 2 ^ 31 := by have := hI.2.1; omega
  rcases z_cM p1 (c := c) with ⟨m, hm, h0, rfl⟩ | ho
  · have hc6 : c ≤ 6 := by have := hI.2.1; omega
    obtain ⟨r, g1, g2⟩ := steer_lx (n := n) (by omega) hX.1.1 hc6 hX.2.1 hI.1 (by omega) hm n c none 0 (fun q hq => by omega) (by omega) (by omega)
    have gX : FX9_steer n σx (nI m) = some (enc r, σx) := by
      unfold FX9_steer FX4_feintsTillKnown
      rw [hasMatter_in hX.1.1 hm h0 hc, zbd_s, zif_neg (by decide), show zlp (LX4_feintsTillKnown_5 n 10) n (σx, nI m, -9, 0) = _ from g1, zbd_s]
    have h7 : ∀ p, p < 6 → σm 7 p = nI (u 2 p) := fun p hp => hM.2.1.1 p hp 2 (by decide)
    have h78 : ∀ p, p < 6 → u 2 p < 8 := fun p hp => (hI.1.1 p hp).2.2.1
    cases r with
    | none =>
      refine ⟨-9, σx, σm, gX, ?_, zR_next h⟩
      show FX10_steer n σm _ = _
      unfold FX10_steer
      rw [isMatter_in hM.1.1 hm h0 hc, zbd_s, zif_neg (by decide)]
      exact msteerB hM.1.1 hc6 h7 h78 hm n c 0 (by omega) (by omega) (fun q _ hq => g2 q hq)
    | some s =>
      obtain ⟨⟨q0, hq0, hK0, hS0⟩, hmin⟩ := g2
      have hS0 : sA (u 1) q0 c = s := hS0
      obtain ⟨σ1, k1, k2, k3⟩ := keep_x (n := n) (by omega) hM.1.1 hc6
      have c1 : σ1 0 5 = nI c := by rw [k3 0 (by decide) (by decide)]; exact hM.1.1
      have v1 : ∀ p, p < 6 → σ1 6 p = nI (u 1 p) := fun p hp => by rw [k3 6 (by decide) (by decide)]; exact hM.2.1.1 p hp 1 (by decide)
      have v7 : ∀ p, p < 6 → σ1 7 p = nI (u 2 p) := fun p hp => by rw [k3 7 (by decide) (by decide)]; exact h7 p hp
      have hS2 : s ≤ 6 * (9 + t + 1) := by rw [← hS0]; exact Nat.le_trans (sA_le (hI.1.1 q0 (by omega)).2.1 c) (Nat.mul_le_mul_right _ hc6)
      obtain ⟨σ2, f1, f2⟩ := msteerS (n := n) (by omega) hc6 h78 hm s n σ1 (u 1) 0 ⟨q0, hq0, hK0, hS0⟩ hmin (by omega) c1 k2 v1 v7 (fun p hp => by have := (hI.1.1 p hp).2.1; omega)
      refine ⟨nI s, σx, σ2, gX, ?_, zR_K h xK.rf f2⟩
      show FX10_steer n σm _ = _
      unfold FX10_steer
      rw [isMatter_in hM.1.1 hm h0 hc, zbd_s, zif_neg (by decide), show zlp (LX10_steer_14 n) n (σm, nI m, 0, 0) = _ from msteerC hM.1.1 hc6 h7 h78 hm n c 0 (by omega) (by omega) ⟨q0, by omega, hq0, hK0⟩, k1, zbd_s, firstOf_x (by omega) c1 hc6 (by omega) v1 (aB hI.1 (by omega)), zbd_s, show zlp (LX10_steer_70 n) n (σ1, nI m, 1, 0, nI (fsN (u 1) c)) = _ from f1, Nat.zero_add]
  · refine ⟨-1, σx, σm, ?_, ?_, zR_next h⟩
    · show FX9_steer n σx _ = _
      unfold FX9_steer
      rw [hasMatter_out hX.1.1 ho, zbd_s, zif_pos rfl]
    · show FX10_steer n σm _ = _
      unfold FX10_steer
      rw [isMatter_out hM.1.1 ho, zbd_s, zif_pos rfl]
