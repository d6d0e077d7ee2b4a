/-! ===== reading, back ===== -/
def rdU (rd : Nat → Nat → Nat) (rc p m v : Nat) : Nat → Nat → Nat := fun f q => if q = rc then (if f = 0 then p else if f = 1 then m else v) else rd f q
section ZRD
variable {σ : zMem} {u : Nat → Nat → Nat} {c : Nat} {so sn : Nat → Nat} {ce : Nat → Nat → Int32} {rc : Nat} {rd : Nat → Nat → Nat} {qs br ft tr : Int32}
theorem XB_rd (h : XB σ u c so sn ce rc rd qs br ft tr) (p m v : Nat) : XB (zst (zst (zst (zst σ 37 rc (nI p)) 38 rc (nI m)) 39 rc (nI v)) 36 3 (nI (rc + 1))) u c so sn ce (rc + 1) (rdU rd rc p m v) qs br ft tr := by
  obtain ⟨a1, a2, a3, a4⟩ := h
  have e : ∀ o, o < 36 ∨ 40 ≤ o → zst (zst (zst (zst σ 37 rc (nI p)) 38 rc (nI m)) 39 rc (nI v)) 36 3 (nI (rc + 1)) o = σ o := fun o ho => by rw [zst_n (by omega), zst_n (by omega), zst_n (by omega), zst_n (by omega)]
  refine ⟨xC_k a1 (fun o ho => e o (by omega)), uV_k a2 (fun o h1 h2 => e o (by omega)), xS_k a3 (fun o h1 h2 => e o (by omega)), ?_, fun q hq => ?_⟩
  · rw [zst_ss]
  · rw [zst_n (show (37 : Nat) ≠ 36 by decide), zst_n (show (38 : Nat) ≠ 36 by decide), zst_n (show (39 : Nat) ≠ 36 by decide), zst_n (show (37 : Nat) ≠ 39 by decide), zst_n (show (37 : Nat) ≠ 38 by decide), zst_n (show (38 : Nat) ≠ 39 by decide)]
    unfold rdU
    by_cases e2 : q = rc
    · subst e2
      rw [zst_ss, zst_ss, zst_ss]
      simp
    · rw [zst_sn e2, zst_sn e2, zst_sn e2, zst_n (show (38 : Nat) ≠ 37 by decide), zst_n (show (39 : Nat) ≠ 38 by decide), zst_n (show (39 : Nat) ≠ 37 by decide)]
      simp only [if_neg e2]
      exact a4.2 q (by omega)
theorem MB_rd (h : MB σ u c so sn ce rc rd qs br ft tr) (p m v : Nat) : MB (zst (zst (zst (zst σ 17 rc (nI p)) 18 rc (nI m)) 19 rc (nI v)) 0 28 (nI (rc + 1))) u c so sn ce (rc + 1) (rdU rd rc p m v) qs br ft tr := by
  obtain ⟨b1, b2, b3, b4⟩ := h
  have e : ∀ o, 1 ≤ o ∧ o < 17 → zst (zst (zst (zst σ 17 rc (nI p)) 18 rc (nI m)) 19 rc (nI v)) 0 28 (nI (rc + 1)) o = σ o := fun o ho => by rw [zst_n (by omega), zst_n (by omega), zst_n (by omega), zst_n (by omega)]
  refine ⟨?_, mV_k b2 (fun o h1 h2 => e o (by omega)), mS_k b3 (fun o h1 h2 => e o (by omega)), ?_, fun q hq => ?_⟩
  · unfold mC
    rw [zst_sn (by decide), zst_sn (by decide), zst_sn (by decide), zst_sn (by decide), zst_sn (by decide), zst_n (show (0 : Nat) ≠ 19 by decide), zst_n (show (0 : Nat) ≠ 18 by decide), zst_n (show (0 : Nat) ≠ 17 by decide)]
    exact b1
  · rw [zst_ss]
  · rw [zst_n (show (17 : Nat) ≠ 0 by decide), zst_n (show (18 : Nat) ≠ 0 by decide), zst_n (show (19 : Nat) ≠ 0 by decide), zst_n (show (17 : Nat) ≠ 19 by decide), zst_n (show (17 : Nat) ≠ 18 by decide), zst_n (show (18 : Nat) ≠ 19 by decide)]
    unfold rdU
    by_cases e2 : q = rc
    · subst e2
      rw [zst_ss, zst_ss, zst_ss]
      simp
    · rw [zst_sn e2, zst_sn e2, zst_sn e2, zst_n (show (18 : Nat) ≠ 17 by decide), zst_n (show (19 : Nat) ≠ 18 by decide), zst_n (show (19 : Nat) ≠ 17 by decide)]
      simp only [if_neg e2]
      exact b4.2 q (by omega)
theorem XB_rc (h : XB σ u c so sn ce rc rd qs br ft tr) {k : Nat} (hk : k ≤ rc) : XB (zst σ 36 3 (nI k)) u c so sn ce k rd qs br ft tr := by
  obtain ⟨a1, a2, a3, a4⟩ := h
  refine ⟨xC_k a1 (fun o ho => zst_n (by omega)), uV_k a2 (fun o h1 h2 => zst_n (by omega)), xS_k a3 (fun o h1 h2 => zst_n (by omega)), ?_, fun q hq => ?_⟩
  · rw [zst_ss]
  · rw [zst_n (by decide), zst_n (by decide), zst_n (by decide)]
    exact a4.2 q (by omega)
theorem MB_rc (h : MB σ u c so sn ce rc rd qs br ft tr) {k : Nat} (hk : k ≤ rc) : MB (zst σ 0 28 (nI k)) u c so sn ce k rd qs br ft tr := by
  obtain ⟨b1, b2, b3, b4⟩ := h
  refine ⟨?_, mV_k b2 (fun o h1 h2 => zst_n (by omega)), mS_k b3 (fun o h1 h2 => zst_n (by omega)), ?_, fun q hq => ?_⟩
  · unfold mC
    rw [zst_sn (by decide), zst_sn (by decide), zst_sn (by decide), zst_sn (by decide), zst_sn (by decide)]
    exact b1
  · rw [zst_ss]
  · rw [zst_n (by decide), zst_n (by decide), zst_n (by decide)]
    exact b4.2 q (by omega)
end ZRD
theorem reading_e (n t : Nat) (p1 p2 p3 : Int32) : zE t (fun σ => FX9_reading n σ p1 p2 p3) (fun σ => FX10_reading n σ p1 p2 p3) := by
  intro σx σm h
  obtain ⟨u, c, so, sn, ce, rc, rd, qs, br, ft, tr, hX, hM, hI⟩ := id h
  have hc : c < 2 ^ 31 := by have := hI.2.1; omega
  rcases z_cs p1 c hc with ⟨j, hj, rfl⟩ | ho
  · have hj6 : j < 6 := by have := hI.2.1; omega
    rcases z_cM p2 (c := c) with ⟨m, hm, h0, rfl⟩ | ho2
    · rcases z_cs p3 201 (by decide) with ⟨v, hv, rfl⟩ | ho3
      · have xr := hX.2.2.2.1
        have mr := hM.2.2.2.1
        by_cases e : rc < 8
        · have I1 : IB t u c so sn (rc + 1) (rdU rd rc j m v) := by
            refine ⟨hI.1, hI.2.1, hI.2.2.1, by omega, fun q hq => ?_⟩
            unfold rdU
            by_cases e2 : q = rc
            · simp [e2]; omega
            · simp only [if_neg e2]
              exact hI.2.2.2.2 q (by omega)
          refine ⟨nI rc, _, _, ?_, ?_, zR_of (XB_rd hX j m v) (MB_rd hM j m v) I1⟩
          · show FX9_reading n σx _ _ _ = _
            unfold FX9_reading FX5_take
            rw [hasPerson_in hX.1.1 hj hc, zbd_s, zif_neg (by decide), hasMatter_in hX.1.1 hm h0 hc, zbd_s, zif_neg (by decide), zif_neg (nI_pos (by omega)), zif_pos (show nI v ≤ 200 from nI_le (b := 200) (by omega) (by decide)), xr, zif_pos (show nI rc < 8 from nI_lt (b := 8) e (by decide)), zgd_in e (by decide), zlet_s, zgd_in e (by decide), zlet_s, zgd_in e (by decide), zlet_s, zlet_s, zcl (by omega), zst_n (by decide), zst_n (by decide), zst_n (by decide), xr, nI_1, zbd_s]
          · show FX10_reading n σm _ _ _ = _
            unfold FX10_reading
            have r1 : zst σm 17 rc (nI j) 0 28 = nI rc := by rw [zst_n (by decide)]; exact mr
            have r2 : zst (zst σm 17 rc (nI j)) 18 rc (nI m) 0 28 = nI rc := by rw [zst_n (by decide)]; exact r1
            have r3 : zst (zst (zst σm 17 rc (nI j)) 18 rc (nI m)) 19 rc (nI v) 0 28 = nI rc := by rw [zst_n (by decide)]; exact r2
            have cl : (nI rc).toNatClampNeg = rc := zcl (by omega)
            rw [isPerson_in hM.1.1 hj hc, zbd_s, zif_neg (by decide), isMatter_in hM.1.1 hm h0 hc, zbd_s, zif_neg (by decide), show FX10_within n σm (nI v) 0 200 = some (1, σm) from within_in (a := 0) (b := 200) (by omega) (by omega) (by decide), zbd_s, zif_neg (by decide), mr, zif_neg (show ¬ nI rc = 8 from nI_ne (b := 8) (by omega) (by decide) (by omega)), zgd_in e (by decide), zlet_s, cl, r1, zgd_in e (by decide), zlet_s, cl, r2, zgd_in e (by decide), zlet_s, cl, r3, zlet_s, nI_1, zst_ss, nI_pred]
        · refine ⟨-4, σx, σm, ?_, ?_, zR_next h⟩
          · show FX9_reading n σx _ _ _ = _
            unfold FX9_reading
            rw [hasPerson_in hX.1.1 hj hc, zbd_s, zif_neg (by decide), hasMatter_in hX.1.1 hm h0 hc, zbd_s, zif_neg (by decide), zif_neg (nI_pos (by omega)), zif_pos (show nI v ≤ 200 from nI_le (b := 200) (by omega) (by decide)), xr, zif_neg (show ¬ nI rc < 8 from nI_nlt (b := 8) (by omega) (by have := hI.2.2.2.1; omega))]
          · show FX10_reading n σm _ _ _ = _
            unfold FX10_reading
            rw [isPerson_in hM.1.1 hj hc, zbd_s, zif_neg (by decide), isMatter_in hM.1.1 hm h0 hc, zbd_s, zif_neg (by decide), show FX10_within n σm (nI v) 0 200 = some (1, σm) from within_in (a := 0) (b := 200) (by omega) (by omega) (by decide), zbd_s, zif_neg (by decide), mr, zif_pos (show nI rc = 8 by rw [show rc = 8 by have := hI.2.2.2.1; omega]; rfl)]
      · refine ⟨-2, σx, σm, ?_, ?_, zR_next h⟩
        · show FX9_reading n σx _ _ _ = _
          unfold FX9_reading
          rw [hasPerson_in hX.1.1 hj hc, zbd_s, zif_neg (by decide), hasMatter_in hX.1.1 hm h0 hc, zbd_s, zif_neg (by decide)]
          by_cases q : p3 < 0
          · rw [zif_pos q]
          · rw [zif_neg q, zif_neg (show ¬ p3 ≤ 200 from Int32.not_le.mpr (Int32.lt_of_lt_of_le (nI_lt (a := 200) (b := 201) (by decide) (by decide)) (ho3.resolve_left q)))]
        · show FX10_reading n σm _ _ _ = _
          unfold FX10_reading
          rw [isPerson_in hM.1.1 hj hc, zbd_s, zif_neg (by decide), isMatter_in hM.1.1 hm h0 hc, zbd_s, zif_neg (by decide), within_out (show p3 < 0 ∨ 200 < p3 from z_cs' (b := 200) (by decide) ho3), zbd_s, zif_pos rfl]
    · refine ⟨-1, σx, σm, ?_, ?_, zR_next h⟩
      · show FX9_reading n σx _ _ _ = _
        unfold FX9_reading
        rw [hasPerson_in hX.1.1 hj hc, zbd_s, zif_neg (by decide), hasMatter_out hX.1.1 ho2, zbd_s, zif_pos rfl]
      · show FX10_reading n σm _ _ _ = _
        unfold FX10_reading
        rw [isPerson_in hM.1.1 hj hc, zbd_s, zif_neg (by decide), isMatter_out hM.1.1 ho2, zbd_s, zif_pos rfl]
  · refine ⟨-1, σx, σm, ?_, ?_, zR_next h⟩
    · show FX9_reading n σx _ _ _ = _
      unfold FX9_reading
      rw [hasPerson_out hX.1.1 ho, zbd_s, zif_pos rfl]
    · show FX10_reading n σm _ _ _ = _
      unfold FX10_reading
      rw [isPerson_out hM.1.1 ho, zbd_s, zif_pos rfl]
theorem back_e (n t : Nat) (p1 : Int32) : zE t (fun σ => FX9_back n σ p1) (fun σ => FX10_back n σ p1) := by
  intro σx σm h
  obtain ⟨u, c, so, sn, ce, rc, rd, qs, br, ft, tr, hX, hM, hI⟩ := id h
  have h8 := hI.2.2.2.1
  have xr := hX.2.2.2.1
  have mr := hM.2.2.2.1
  rcases z_cs p1 (rc + 1) (by omega) with ⟨k, hk, rfl⟩ | ho
  · have I1 : IB t u c so sn (rc - k) rd := ⟨hI.1, hI.2.1, hI.2.2.1, by omega, fun q hq => hI.2.2.2.2 q (by omega)⟩
    refine ⟨nI (rc - k), _, _, ?_, ?_, zR_of (XB_rc hX (k := rc - k) (by omega)) (MB_rc hM (k := rc - k) (by omega)) I1⟩
    · show FX9_back n σx _ = _
      unfold FX9_back
      rw [zif_neg (nI_pos (by omega)), xr, zif_pos (nI_le (by omega) (by omega)), zlet_s, pk_sub (by omega), zst_ss]
    · show FX10_back n σm _ = _
      unfold FX10_back
      rw [mr, show FX10_within n σm (nI k) 0 (nI rc) = some (1, σm) from within_in (a := 0) (by omega) (by omega) (by omega), zbd_s, zif_neg (by decide), mr, zlet_s, pk_sub (by omega), zst_ss]
  · refine ⟨-2, σx, σm, ?_, ?_, zR_next h⟩
    · show FX9_back n σx _ = _
      unfold FX9_back
      by_cases q : p1 < 0
      · rw [zif_pos q]
      · rw [zif_neg q, xr, zif_neg (Int32.not_le.mpr (Int32.lt_of_lt_of_le (nI_lt (by omega) (by omega)) (ho.resolve_left q)))]
    · show FX10_back n σm _ = _
      unfold FX10_back
      rw [mr, within_out (show p1 < 0 ∨ nI rc < p1 from z_cs' (b := rc) (by omega) ho), zbd_s, zif_pos rfl]
/-! ===== places in the register ===== -/
def tA (a : Nat → Nat) (q p : Nat) : Nat := a p + (if q < p then 1 else 0) - a q
def plF (a : Nat → Nat) (p : Nat) : Nat → Nat → Nat → Nat
  | 0, acc, _ => acc
  | k + 1, acc, q => plF a p k (if 0 < tA a q p then acc + 1 else acc) (q + 1)
def plN (a : Nat → Nat) (c p : Nat) : Nat := plF a p c 0 0
theorem plF_le {a : Nat → Nat} {p : Nat} : ∀ k acc q, plF a p k acc q ≤ acc + k := by
  intro k
  induction k with
  | zero => intro acc q; exact Nat.le_refl _
  | succ k ih =>
    intro acc q
    unfold plF
    split
    · exact Nat.le_trans (ih _ _) (by omega)
    · exact Nat.le_trans (ih _ _) (by omega)
theorem timesAhead_x {n w q p : Nat} {σ : zMem} {a : Nat → Nat} (hv : ∀ p, p < 6 → σ (w + 3 + p) 1 = nI (a p)) (ha : ∀ p, p < 6 → a p < 2 ^ 20) (hq : q < 6) (hp : p < 6) : FX4_timesAhead n w σ (nI q) (nI p) = some (nI (tA a q p), σ) := by
  have k1 := ha q hq
  have k2 := ha p hp
  have core : ∀ d : Nat, d ≤ 1 → BX4_timesAhead_19 n w σ (nI q) (nI p) (nI (a p)) (nI d) = some (nI (a p + d - a q), σ) := by
    intro d hd
    unfold BX4_timesAhead_19
    rw [zgd_in hq (by decide), zcl (by omega), hv q hq, nI_add]
    congr 2
    by_cases e : a q < a p + d
    · rw [pk_sub (by omega), if_pos (show (0 : Int32) < nI (a p + d - a q) from nI_lt (a := 0) (by omega) (by omega))]
    · by_cases e2 : a q = a p + d
      · rw [e2, pk_sub (by omega), Nat.sub_self, if_neg (by decide)]
        rfl
      · rw [if_neg (Int32.not_lt.mpr (Int32.le_of_lt (pk_sneg (by omega) (by omega)))), show a p + d - a q = 0 by omega]
        rfl
  unfold FX4_timesAhead tA
  rw [zgd_in hp (by decide), zcl (by omega), hv p hp]
  by_cases e : q < p
  · rw [zif_neg (nI_ge e (by omega)), if_pos e]
    exact core 1 (by omega)
  · rw [zif_pos (nI_le (by omega) (by omega)), if_neg e]
    exact core 0 (by omega)
theorem placeOf_lx {n w c p : Nat} {σ : zMem} {a : Nat → Nat} (hc : σ w 2 = nI c) (h6 : c ≤ 6) (hv : ∀ p, p < 6 → σ (w + 3 + p) 1 = nI (a p)) (ha : ∀ p, p < 6 → a p < 2 ^ 20) (hp : p < 6) : ∀ f k acc q, acc ≤ q → q + k = c → k < f → zlp (LX4_placeOf_4 n w) f (σ, nI p, nI acc, nI q) = some (nI (plF a p k acc q), σ) := by
  intro f
  induction f with
  | zero => intro k acc q _ _ h; omega
  | succ f ih =>
    intro k acc q hacc hk hf
    rw [zlp_n]
    show LBX4_placeOf_4 n w _ σ (nI p) (nI acc) (nI q) = _
    unfold LBX4_placeOf_4
    rw [hc]
    cases k with
    | zero => rw [zif_pos (nI_le (by omega) (by omega))]; rfl
    | succ k =>
      rw [zif_neg (nI_ge (by omega) (by omega)), timesAhead_x hv ha (show q < 6 by omega) hp, zbd_s, nI_1, nI_1]
      unfold plF
      by_cases e : 0 < tA a q p
      · have := ha p hp
        rw [zif_neg (nI_nle e (by unfold tA; split <;> omega)), if_pos e]
        exact ih k (acc + 1) (q + 1) (by omega) (by omega) (by omega)
      · rw [show tA a q p = 0 by omega, zif_pos (by decide), if_neg (by omega)]
        exact ih k acc (q + 1) (by omega) (by omega) (by omega)
theorem placeOf_x {n w c p : Nat} {σ : zMem} {a : Nat → Nat} (hn : 6 < n) (hc : σ w 2 = nI c) (h6 : c ≤ 6) (hv : ∀ p, p < 6 → σ (w + 3 + p) 1 = nI (a p)) (ha : ∀ p, p < 6 → a p < 2 ^ 20) (hp : p < 6) : FX4_placeOf n w σ (nI p) = some (nI (plN a c p), σ) := placeOf_lx hc h6 hv ha hp n c 0 0 (by omega) (by omega) (by omega)
theorem mplaceOf_lx {n c p : Nat} {σ : zMem} {a : Nat → Nat} (hc : σ 0 5 = nI c) (h6 : c ≤ 6) (hv : ∀ p, p < 6 → σ 6 p = nI (a p)) (ha : ∀ p, p < 6 → a p < 2 ^ 20) (hp : p < 6) : ∀ f k acc q, acc ≤ q → q + k = c → k < f → zlp (LX10_placeOf_4 n) f (σ, nI p, nI acc, nI q) = some (nI (plF a p k acc q), σ) := by
  intro f
  induction f with
  | zero => intro k acc q _ _ h; omega
  | succ f ih =>
    intro k acc q hacc hk hf
    rw [zlp_n]
    show LBX10_placeOf_4 n _ σ (nI p) (nI acc) (nI q) = _
    unfold LBX10_placeOf_4 BX10_placeOf_52 BX10_placeOf_48 BX10_placeOf_53
    rw [hc]
    cases k with
    | zero => rw [zif_pos (nI_le (by omega) (by omega))]; rfl
    | succ k =>
      have kq := ha q (by omega)
      have kp := ha p hp
      rw [zif_neg (nI_ge (by omega) (by omega)), zgd_in (show q < 6 by omega) (by decide), zgd_in hp (by decide), zcl (show q < 2 ^ 31 by omega), zcl (show p < 2 ^ 31 by omega), hv q (by omega), hv p hp, zgd_n (show q < 6 by omega) (by decide), zgd_n hp (by decide), nI_1, nI_1, show nI acc + 0 = nI acc from nI_add acc 0]
      unfold plF
      by_cases e : 0 < tA a q p
      · rw [if_pos e]
        have key := ih k (acc + 1) (q + 1) (by omega) (by omega) (by omega)
        unfold tA at e
        by_cases e1 : a q < a p
        · rw [zif_pos (nI_lt e1 (by omega))]
          exact key
        · by_cases e2 : q < p
          · rw [if_pos e2] at e
            rw [zif_neg (nI_nlt (by omega) (by omega)), zif_pos (by rw [show a q = a p by omega]), zif_neg (nI_ge e2 (by omega))]
            exact key
          · rw [if_neg e2] at e
            omega
      · rw [if_neg e]
        have key := ih k acc (q + 1) (by omega) (by omega) (by omega)
        unfold tA at e
        by_cases e2 : q < p
        · rw [if_pos e2] at e
          rw [zif_neg (nI_nlt (by omega) (by omega)), zif_neg (nI_ne (by omega) (by omega) (by omega))]
          exact key
        · rw [if_neg e2] at e
          rw [zif_neg (nI_nlt (by omega) (by omega)), zif_pos (nI_le (show p ≤ q by omega) (by omega))]
          by_cases e3 : a q = a p
          · rw [zif_pos (by rw [e3])]
            exact key
          · rw [zif_neg (nI_ne (by omega) (by omega) e3)]
            exact key
theorem mplaceOf_x {n c p : Nat} {σ : zMem} {a : Nat → Nat} (hn : 6 < n) (hc : σ 0 5 = nI c) (h6 : c ≤ 6) (hv : ∀ p, p < 6 → σ 6 p = nI (a p)) (ha : ∀ p, p < 6 → a p < 2 ^ 20) (hp : p < 6) : FX10_placeOf n σ (nI p) = some (nI (plN a c p), σ) := mplaceOf_lx hc h6 hv ha hp n c 0 0 (by omega) (by omega) (by omega)
def atF (a : Nat → Nat) (c kk : Nat) : Nat → Nat → Int32
  | 0, _ => -9
  | r + 1, p => if plN a c p = kk then nI p else atF a c kk r (p + 1)
theorem atPlace_lx {n w c kk : Nat} {σ : zMem} {a : Nat → Nat} (hn : 6 < n) (hc : σ w 2 = nI c) (h6 : c ≤ 6) (hv : ∀ p, p < 6 → σ (w + 3 + p) 1 = nI (a p)) (ha : ∀ p, p < 6 → a p < 2 ^ 20) (hk6 : kk < 6) : ∀ f k p, p + k = c → k < f → zlp (LX4_atPlace_2 n w) f (σ, nI kk, nI p) = some (atF a c kk k p, σ) := by
  intro f
  induction f with
  | zero => intro k p _ h; omega
  | succ f ih =>
    intro k p hk hf
    rw [zlp_n]
    show LBX4_atPlace_2 n w _ σ (nI kk) (nI p) = _
    unfold LBX4_atPlace_2
    rw [hc]
    cases k with
    | zero => rw [zif_pos (nI_le (by omega) (by omega))]; rfl
    | succ k =>
      have hpl := plF_le (a := a) (p := p) c 0 0
      rw [zif_neg (nI_ge (by omega) (by omega)), placeOf_x hn hc h6 hv ha (show p < 6 by omega), zbd_s, nI_1]
      unfold atF
      by_cases e : plN a c p = kk
      · rw [zif_pos (by rw [e]), if_pos e]
      · rw [zif_neg (nI_ne (by unfold plN; omega) (by omega) e), if_neg e]
        exact ih k (p + 1) (by omega) (by omega)
theorem mregister_lx {n c kk : Nat} {σ : zMem} {a : Nat → Nat} (hn : 6 < n) (hc : σ 0 5 = nI c) (h6 : c ≤ 6) (hv : ∀ p, p < 6 → σ 6 p = nI (a p)) (ha : ∀ p, p < 6 → a p < 2 ^ 20) (hk6 : kk < 6) : ∀ f k p, p + k = c → k < f → zlp (LX10_register_24 n) f (σ, nI kk, nI p) = some (atF a c kk k p, σ) := by
  intro f
  induction f with
  | zero => intro k p _ h; omega
  | succ f ih =>
    intro k p hk hf
    rw [zlp_n]
    show LBX10_register_24 n _ σ (nI kk) (nI p) = _
    unfold LBX10_register_24
    rw [hc]
    cases k with
    | zero => rw [zif_pos (nI_le (by omega) (by omega))]; rfl
    | succ k =>
      have hpl := plF_le (a := a) (p := p) c 0 0
      rw [zif_neg (nI_ge (by omega) (by omega)), mplaceOf_x hn hc h6 hv ha (show p < 6 by omega), zbd_s, nI_1]
      unfold atF
      by_cases e : plN a c p = kk
      · rw [zif_pos (by rw [e]), if_pos e]
      · rw [zif_neg (nI_ne (by unfold plN; omega) (by omega) e), if_neg e]
        exact ih k (p + 1) (by omega) (by omega)
theorem aB2 {u : Nat → Nat → Nat} {T : Nat} (hb : uB u T) (hT : T < 1000) : ∀ p, p < 6 → u 1 p < 2 ^ 20 := fun p hp => by have := (hb.1 p hp).2.1; omega
theorem register_e (n t : Nat) (hn : 6 < n) (ht : t < 600) (p1 : Int32) : zE t (fun σ => FX9_register n σ p1) (fun σ => FX10_register n σ p1) := by
  intro σx σm h
  obtain ⟨u, c, so, sn, ce, rc, rd, qs, br, ft, tr, hX, hM, hI⟩ := id h
  have hc : c < 2 ^ 31 := by have := hI.2.1; omega
  have hc6 : c ≤ 6 := by have := hI.2.1; omega
  rcases z_cs p1 6 (by decide) with ⟨k, hk, rfl⟩ | ho
  · by_cases e : c = 0
    · refine ⟨-3, σx, σm, ?_, ?_, zR_next h⟩
      · show FX9_register n σx _ = _
        unfold FX9_register
        rw [li_6, isBelow_in hk (by decide), zbd_s, zif_neg (by decide), hX.1.1, zif_pos (by rw [e]; rfl)]
      · show FX10_register n σm _ = _
        unfold FX10_register
        rw [show FX10_within n σm (nI k) 0 5 = some (1, σm) from within_in (a := 0) (b := 5) (by omega) (by omega) (by decide), zbd_s, zif_neg (by decide), hM.1.1, zif_pos (by rw [e]; rfl)]
    · refine ⟨atF (u 1) c k c 0, σx, σm, ?_, ?_, zR_next h⟩
      · show FX9_register n σx _ = _
        unfold FX9_register FX4_atPlace
        rw [li_6, isBelow_in hk (by decide), zbd_s, zif_neg (by decide), hX.1.1, zif_neg (nI_ne0 (by omega) hc), show zlp (LX4_atPlace_2 n 10) n (σx, nI k, 0) = _ from atPlace_lx hn hX.1.1 hc6 (fun p hp => hX.2.1.1 p hp 1 (by decide)) (aB2 hI.1 (by omega)) hk n c 0 (by omega) (by omega), zbd_s]
      · show FX10_register n σm _ = _
        unfold FX10_register
        rw [show FX10_within n σm (nI k) 0 5 = some (1, σm) from within_in (a := 0) (b := 5) (by omega) (by omega) (by decide), zbd_s, zif_neg (by decide), hM.1.1, zif_neg (nI_ne0 (by omega) hc)]
        exact mregister_lx hn hM.1.1 hc6 (fun p hp => hM.2.1.1 p hp 1 (by decide)) (aB2 hI.1 (by omega)) hk n c 0 (by omega) (by omega)
  · refine ⟨-2, σx, σm, ?_, ?_, zR_next h⟩
    · show FX9_register n σx _ = _
      unfold FX9_register
      rw [li_6, isBelow_out ho, zbd_s, zif_pos rfl]
    · show FX10_register n σm _ = _
      unfold FX10_register
      rw [within_out (show p1 < 0 ∨ 5 < p1 from z_cs' (b := 5) (by decide) ho), zbd_s, zif_pos rfl]
theorem ofPerson_e (n t : Nat) (hn : 6 < n) (ht : t < 600) (p1 p2 : Int32) : zE t (fun σ => FX9_ofPerson n σ p1 p2) (fun σ => FX10_ofPerson n σ p1 p2) := by
  intro σx σm h
  obtain ⟨u, c, so, sn, ce, rc, rd, qs, br, ft, tr, hX, hM, hI⟩ := id h
  have hc : c < 2 ^ 31 := by have := hI.2.1; omega
  have hc6 : c ≤ 6 := by have := hI.2.1; omega
  rcases z_cs p1 c hc with ⟨j, hj, rfl⟩ | ho
  · have hj6 : j < 6 := by omega
    have xx : ∀ f, f < 4 → σx (13 + j) f = nI (u f j) := fun f hf => hX.2.1.1 j hj6 f hf
    have mm : ∀ f, f < 4 → σm (5 + f) j = nI (u f j) := fun f hf => hM.2.1.1 j hj6 f hf
    have cl : (nI j).toNatClampNeg = j := zcl (by omega)
    have hR := zR_next h
    have gX : ∀ {R : Option (Int32 × zMem)}, zif (p2 = 0) (some (σx (13 + j) 0, σx)) (zif (p2 = 1) (some (σx (13 + j) 1, σx)) (zif (p2 = 2) (some (σx (13 + j) 2, σx)) (zif (p2 = 3) (some (σx (13 + j) 3, σx)) (zif (p2 = 4) (zbd (FX2_saying n (13 + j) σx) (fun r12 σ11 => some (r12, σ11))) (zif (p2 = 5) (zbd (FX4_placeOf n 10 σx (nI j)) (fun r16 σ15 => some (r16, σ15))) (some (-2, σx))))))) = R → FX9_ofPerson n σx (nI j) p2 = R := by
      intro R hr
      unfold FX9_ofPerson
      rw [hasPerson_in hX.1.1 hj hc, zbd_s, zif_neg (by decide), zgd_in hj6 (by decide), cl]
      exact hr
    have gM : ∀ {R : Option (Int32 × zMem)}, zif (p2 = 0) (some (σm 5 j, σm)) (zif (p2 = 1) (some (σm 6 j, σm)) (zif (p2 = 2) (some (σm 7 j, σm)) (zif (p2 = 3) (some (σm 8 j, σm)) (zif (p2 = 4) (zbd (FX10_saysOf n σm (nI j)) (fun r12 σ11 => some (r12, σ11))) (zif (p2 = 5) (zbd (FX10_placeOf n σm (nI j)) (fun r16 σ15 => some (r16, σ15))) (some (-2, σm))))))) = R → FX10_ofPerson n σm (nI j) p2 = R := by
      intro R hr
      unfold FX10_ofPerson
      rw [isPerson_in hM.1.1 hj hc, zbd_s, zif_neg (by decide), zgd_in hj6 (by decide), zgd_in hj6 (by decide), zgd_in hj6 (by decide), zgd_in hj6 (by decide), cl]
      exact hr
    by_cases e0 : p2 = 0
    · exact ⟨nI (u 0 j), σx, σm, gX (by rw [zif_pos e0, xx 0 (by decide)]), gM (by rw [zif_pos e0]; rw [show σm 5 j = _ from mm 0 (by decide)]), hR⟩
    by_cases e1 : p2 = 1
    · exact ⟨nI (u 1 j), σx, σm, gX (by rw [zif_neg e0, zif_pos e1, xx 1 (by decide)]), gM (by rw [zif_neg e0, zif_pos e1]; rw [show σm 6 j = _ from mm 1 (by decide)]), hR⟩
    by_cases e2 : p2 = 2
    · exact ⟨nI (u 2 j), σx, σm, gX (by rw [zif_neg e0, zif_neg e1, zif_pos e2, xx 2 (by decide)]), gM (by rw [zif_neg e0, zif_neg e1, zif_pos e2]; rw [show σm 7 j = _ from mm 2 (by decide)]), hR⟩
    by_cases e3 : p2 = 3
    · exact ⟨nI (u 3 j), σx, σm, gX (by rw [zif_neg e0, zif_neg e1, zif_neg e2, zif_pos e3, xx 3 (by decide)]), gM (by rw [zif_neg e0, zif_neg e1, zif_neg e2, zif_pos e3]; rw [show σm 8 j = _ from mm 3 (by decide)]), hR⟩
    by_cases e4 : p2 = 4
    · exact ⟨nI (sayN u j), σx, σm, gX (by rw [zif_neg e0, zif_neg e1, zif_neg e2, zif_neg e3, zif_pos e4, saying_x (xx 0 (by decide)) (xx 3 (by decide)) (hI.1.1 j hj6).1, zbd_s]), gM (by rw [zif_neg e0, zif_neg e1, zif_neg e2, zif_neg e3, zif_pos e4, saysOf_x hM.2.1 hI.1 hj6, zbd_s]), hR⟩
    by_cases e5 : p2 = 5
    · exact ⟨nI (plN (u 1) c j), σx, σm, gX (by rw [zif_neg e0, zif_neg e1, zif_neg e2, zif_neg e3, zif_neg e4, zif_pos e5, placeOf_x hn hX.1.1 hc6 (fun p hp => hX.2.1.1 p hp 1 (by decide)) (aB2 hI.1 (by omega)) hj6, zbd_s]), gM (by rw [zif_neg e0, zif_neg e1, zif_neg e2, zif_neg e3, zif_neg e4, zif_pos e5, mplaceOf_x hn hM.1.1 hc6 (fun p hp => hM.2.1.1 p hp 1 (by decide)) (aB2 hI.1 (by omega)) hj6, zbd_s]), hR⟩
    · exact ⟨-2, σx, σm, gX (by rw [zif_neg e0, zif_neg e1, zif_neg e2, zif_neg e3, zif_neg e4, zif_neg e5]), gM (by rw [zif_neg e0, zif_neg e1, zif_neg e2, zif_neg e3, zif_neg e4, zif_neg e5]), hR⟩
  · refine ⟨-1, σx, σm, ?_, ?_, zR_next h⟩
    · show FX9_ofPerson n σx _ _ = _
      unfold FX9_ofPerson
      rw [hasPerson_out hX.1.1 ho, zbd_s, zif_pos rfl]
    · show FX10_ofPerson n σm _ _ = _
      unfold FX10_ofPerson
      rw [isPerson_out hM.1.1 ho, zbd_s, zif_pos rfl]
