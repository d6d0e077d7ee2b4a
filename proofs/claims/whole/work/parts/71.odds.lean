/-! ===== odds ===== -/
def wbI (u : Nat → Nat → Nat) (p v kk : Nat) : Nat → Nat
  | 0 => 0
  | m + 1 => wbI u p v kk m + (if brN (up2 u 2 p kk) p m < v then 0 else 1)
def wbO (u : Nat → Nat → Nat) (p v : Nat) : Nat → Nat
  | 0 => 0
  | k + 1 => wbO u p v k + wbI u p v k 3
theorem wbI_le {u : Nat → Nat → Nat} {p v kk : Nat} : ∀ m, wbI u p v kk m ≤ m := by
  intro m
  induction m with
  | zero => exact Nat.le_refl _
  | succ m ih => unfold wbI; split <;> omega
theorem wbO_le {u : Nat → Nat → Nat} {p v : Nat} : ∀ k, wbO u p v k ≤ 3 * k := by
  intro k
  induction k with
  | zero => exact Nat.le_refl _
  | succ k ih => unfold wbO; have := wbI_le (u := u) (p := p) (v := v) (kk := k) 3; omega
theorem ways_i {n p v kk g T : Nat} {u : Nat → Nat → Nat} {k16 : zMem × Int32 × Int32 × Int32 × Int32 → Option (Int32 × zMem)} {σ : zMem} (hv : uV 19 σ (up2 u 2 p kk)) (hb : uB (up2 u 2 p kk) T) (hp : p < 6) (hv2 : v ≤ 200) : ∀ f k m, m + k = 3 → k < f → zlp (LX9_waysToBring_40 n k16) f (σ, nI p, nI v, nI (g + wbI u p v kk m), nI kk, nI m) = k16 (σ, nI p, nI v, nI (g + wbI u p v kk 3), nI kk + 1) := by
  intro f
  induction f with
  | zero => intro k m _ h; omega
  | succ f ih =>
    intro k m hk hf
    rw [zlp_n]
    show LBX9_waysToBring_40 n k16 _ σ (nI p) (nI v) (nI (g + wbI u p v kk m)) (nI kk) (nI m) = _
    unfold LBX9_waysToBring_40
    cases k with
    | zero => rw [zif_pos (show (3 : Int32) ≤ nI m from nI_le (a := 3) (by omega) (by omega)), show m = 3 by omega]
    | succ k =>
      have hbr := brN_le hb hp (show m < 3 by omega)
      rw [zif_neg (show ¬ (3 : Int32) ≤ nI m from nI_ge (b := 3) (by omega) (by omega)), bringing_x hv hb hp (show m < 3 by omega), zbd_s, nI_1 m, nI_1 (g + wbI u p v kk m)]
      have key := ih k (m + 1) (by omega) (by omega)
      unfold wbI at key
      by_cases e : brN (up2 u 2 p kk) p m < v
      · rw [if_pos e] at key
        rw [zif_pos (nI_lt e (by omega))]
        exact key
      · rw [if_neg e] at key
        rw [zif_neg (nI_nlt (by omega) (by omega))]
        exact key
theorem ways_o {n p v T : Nat} {u : Nat → Nat → Nat} {σ0 : zMem} (hn : 8 < n) (hb : ∀ kk, kk < 8 → uB (up2 u 2 p kk) T) (hp : p < 6) (hv2 : v ≤ 200) : ∀ f k kk (σ : zMem), kk + k = 8 → k < f → xK σ0 σ → (∃ w, uV 19 σ (up2 u 2 p w)) → ∃ σ', zlp (LX9_waysToBring_16 n) f (σ, nI p, nI v, nI (wbO u p v kk), nI kk) = some (nI (wbO u p v 8), σ') ∧ xK σ0 σ' := by
  intro f
  induction f with
  | zero => intro k kk σ _ h; omega
  | succ f ih =>
    intro k kk σ hk hf hx hw
    rw [zlp_n]
    show ∃ σ', LBX9_waysToBring_16 n _ σ (nI p) (nI v) (nI (wbO u p v kk)) (nI kk) = _ ∧ _
    unfold LBX9_waysToBring_16
    cases k with
    | zero => exact ⟨σ, by rw [zif_pos (show (8 : Int32) ≤ nI kk from nI_le (a := 8) (by omega) (by omega)), show kk = 8 by omega], hx⟩
    | succ k =>
      obtain ⟨w, hw⟩ := hw
      have v1 : uV 19 (zst σ (22 + p) 2 (nI kk)) (up2 u 2 p kk) := by have := uV_up (w := 19) (f := 2) (v := kk) hw (by decide) hp; rw [up2_up2] at this; exact this
      have x1 : xK σ0 (zst σ (22 + p) 2 (nI kk)) := hx.st (by omega)
      rw [zif_neg (show ¬ (8 : Int32) ≤ nI kk from nI_ge (b := 8) (by omega) (by omega)), zgd_in hp (by decide), zcl (by omega), zlet_s]
      have key := ways_i (n := n) (g := wbO u p v kk) (k16 := zlp (LX9_waysToBring_16 n) f) v1 (hb kk (by omega)) hp hv2 n 3 0 (by omega) (by omega)
      rw [show zlp (LX9_waysToBring_40 n (zlp (LX9_waysToBring_16 n) f)) n (zst σ (22 + p) 2 (nI kk), nI p, nI v, nI (wbO u p v kk), nI kk, 0) = _ from key, nI_1]
      exact ih k (kk + 1) _ (by omega) (by omega) x1 ⟨kk, v1⟩
theorem modds_i {n p v kk g T : Nat} {u : Nat → Nat → Nat} {l3 l4 : Int32} {k46 : zMem × Int32 × Int32 × Int32 × Int32 × Int32 × Int32 → Option (Int64 × zMem)} {σ : zMem} (hv : mV σ (up2 u 2 p kk)) (hb : uB (up2 u 2 p kk) T) (hp : p < 6) (hv2 : v ≤ 200) : ∀ f k m, m + k = 3 → k < f → zlp (LX10_odds_64 n k46) f (σ, nI p, nI v, l3, l4, nI (g + wbI u p v kk m), nI kk, nI m) = k46 (σ, nI p, nI v, l3, l4, nI (g + wbI u p v kk 3), nI kk + 1) := by
  intro f
  induction f with
  | zero => intro k m _ h; omega
  | succ f ih =>
    intro k m hk hf
    rw [zlp_n]
    show LBX10_odds_64 n k46 _ σ (nI p) (nI v) l3 l4 (nI (g + wbI u p v kk m)) (nI kk) (nI m) = _
    unfold LBX10_odds_64 BX10_odds_88
    cases k with
    | zero => rw [zif_pos (show (3 : Int32) ≤ nI m from nI_le (a := 3) (by omega) (by omega)), show m = 3 by omega]
    | succ k =>
      have hbr := brN_le hb hp (show m < 3 by omega)
      rw [zif_neg (show ¬ (3 : Int32) ≤ nI m from nI_ge (b := 3) (by omega) (by omega)), bringsOf_x hv hb hp (show m < 3 by omega), zbd_s, nI_1 m, nI_1 (g + wbI u p v kk m), show nI (g + wbI u p v kk m) + 0 = nI (g + wbI u p v kk m + 0) from nI_add _ 0]
      have key := ih k (m + 1) (by omega) (by omega)
      unfold wbI at key
      by_cases e : brN (up2 u 2 p kk) p m < v
      · rw [if_pos e] at key
        rw [zif_pos (nI_lt e (by omega))]
        exact key
      · rw [if_neg e] at key
        rw [zif_neg (nI_nlt (by omega) (by omega))]
        exact key
theorem modds_o {n p v T : Nat} {u : Nat → Nat → Nat} {l3 : Int32} {σ0 : zMem} (hn : 8 < n) (hv : mV σ0 u) (hb : ∀ kk, kk < 8 → uB (up2 u 2 p kk) T) (hp : p < 6) (hv2 : v ≤ 200) : ∀ f k kk (σ : zMem), kk + k = 8 → k < f → (∀ x, zst σ 7 p x = zst σ0 7 p x) → zlp (LX10_odds_46 n) f (σ, nI p, nI v, l3, σ0 7 p, nI (wbO u p v kk), nI kk) = zbd (FX10_inLeastTerms n σ0 (nI (wbO u p v 8)).toInt64 24 l3) (fun r10 σ9 => some (r10, σ9)) := by
  intro f
  induction f with
  | zero => intro k kk σ _ h; omega
  | succ f ih =>
    intro k kk σ hk hf hz
    rw [zlp_n]
    show LBX10_odds_46 n _ σ (nI p) (nI v) l3 (σ0 7 p) (nI (wbO u p v kk)) (nI kk) = _
    unfold LBX10_odds_46
    cases k with
    | zero => rw [zif_pos (show (7 : Int32) < nI kk from nI_lt (a := 7) (by omega) (by omega)), zgd_in hp (by decide), zcl (by omega), zlet_s, hz, zst_id, show kk = 8 by omega]
    | succ k =>
      have v1 : mV (zst σ0 7 p (nI kk)) (up2 u 2 p kk) := mV_up (f := 2) hv (by decide) hp
      rw [zif_neg (show ¬ (7 : Int32) < nI kk from nI_nlt (b := kk) (a := 7) (by omega) (by decide)), zgd_in hp (by decide), zcl (by omega), zlet_s, hz]
      have key := modds_i (n := n) (l3 := l3) (l4 := σ0 7 p) (g := wbO u p v kk) (k46 := zlp (LX10_odds_46 n) f) v1 (hb kk (by omega)) hp hv2 n 3 0 (by omega) (by omega)
      rw [show zlp (LX10_odds_64 n (zlp (LX10_odds_46 n) f)) n (zst σ0 7 p (nI kk), nI p, nI v, l3, σ0 7 p, nI (wbO u p v kk), nI kk, 0) = _ from key, nI_1]
      exact ih k (kk + 1) _ (by omega) (by omega) (fun x => zst_zst)
def cdF (g : Nat) : Nat → Nat
  | 0 => 1
  | d + 1 => if d + 1 ≤ 1 then 1 else if g % (d + 1) = 0 ∧ 24 % (d + 1) = 0 then d + 1 else cdF g d
theorem cd_gcd : ∀ g, g < 25 → cdF g 24 = Nat.gcd g 24 := by decide +kernel
theorem cd_lx {n g : Nat} {σ : zMem} (hg : g ≤ 24) : ∀ f d, d ≤ 24 → 0 < d → d ≤ f → zlp (LX9_commonDivisor_2 n) f (σ, nI g, 24, nI d) = some (nI (cdF g d), σ) := by
  intro f
  induction f with
  | zero => intro d _ h0 h; omega
  | succ f ih =>
    intro d hd h0 hf
    rw [zlp_n]
    show LBX9_commonDivisor_2 n _ σ (nI g) 24 (nI d) = _
    unfold LBX9_commonDivisor_2
    obtain ⟨d, rfl⟩ : ∃ k, d = k + 1 := ⟨d - 1, by omega⟩
    unfold cdF
    by_cases e1 : d + 1 ≤ 1
    · rw [zif_pos (show nI (d + 1) ≤ 1 from nI_le (b := 1) e1 (by decide)), if_pos e1]
      rfl
    · have ne : ¬ nI (d + 1) = 0 := nI_ne0 (by omega) (by omega)
      rw [zif_neg (show ¬ nI (d + 1) ≤ 1 from nI_ge (a := 1) (by omega) (by omega)), if_neg e1, zgd_t ne, pk_rem (by omega) (by omega) (by omega), show (24 : Int32) - 24 / nI (d + 1) * nI (d + 1) = nI (24 % (d + 1)) from pk_rem (a := 24) (by decide) (by omega) (by omega), pk_m1]
      have hm := Nat.mod_lt g (show 0 < d + 1 by omega)
      have hm2 := Nat.mod_lt 24 (show 0 < d + 1 by omega)
      have key := ih d (by omega) (by omega) (by omega)
      by_cases e2 : g % (d + 1) = 0
      · rw [zif_pos (by rw [e2]; rfl), zgd_t ne]
        by_cases e3 : 24 % (d + 1) = 0
        · rw [zif_pos (by rw [e3]; rfl), if_pos ⟨e2, e3⟩]
        · rw [zif_neg (show ¬ nI (24 % (d + 1)) = 0 from nI_ne (b := 0) (by omega) (by decide) e3), if_neg (fun z => e3 z.2)]
          exact key
      · rw [zif_neg (show ¬ nI (g % (d + 1)) = 0 from nI_ne (b := 0) (by omega) (by decide) e2), if_neg (fun z => e2 z.1)]
        exact key
theorem lg_cmp0 {k : Nat} (h : k < 2 ^ 31) : lg_cmp (lN k) 0 = if k = 0 then 0 else 1 := by
  unfold lg_cmp
  have e0 : (0 : Int64) = lN 0 := rfl
  by_cases e : k = 0
  · subst e
    rfl
  · rw [if_pos (show lN k > 0 from by rw [e0]; exact (lN_lt (by decide) h).mpr (by omega)), if_neg e]
theorem euc_lx {n g : Nat} {l4 : Int32} {σ : zMem} (hg : g ≤ 24) : ∀ f x y, x ≤ 24 → y ≤ 24 → 0 < x + y → y < f → zlp (LX10_inLeastTerms_6 n) f (σ, lN g, lN 24, l4, lN x, lN y) = some (if l4 = 0 then lN (g / Nat.gcd x y) else lN (24 / Nat.gcd x y), σ) := by
  intro f
  induction f with
  | zero => intro x y _ _ _ h; omega
  | succ f ih =>
    intro x y hx hy h0 hf
    rw [zlp_n]
    show LBX10_inLeastTerms_6 n _ σ (lN g) (lN 24) l4 (lN x) (lN y) = _
    unfold LBX10_inLeastTerms_6
    rw [lg_cmp0 (by omega)]
    by_cases e : y = 0
    · subst e
      have nx : ¬ lN x = 0 := fun z => by have := (lN_eq (a := x) (b := 0) (by omega) (by decide)).mp z; omega
      rw [if_pos rfl, zif_pos rfl, zgd_t nx, zgd_t nx, pk_lDiv (by omega) (by omega) (by omega), pk_lDiv (by decide) (by omega) (by omega), Nat.gcd_zero_right]
      by_cases e2 : l4 = 0
      · rw [zif_pos e2, if_pos e2]
      · rw [zif_neg e2, if_neg e2]
    · have ny : ¬ lN y = 0 := fun z => by have := (lN_eq (a := y) (b := 0) (by omega) (by decide)).mp z; omega
      have hm := Nat.mod_lt x (show 0 < y by omega)
      rw [if_neg e, zif_neg (by decide), zgd_t ny, pk_lRem (by omega) (by omega) (by omega)]
      have key := ih y (x % y) (by omega) (by omega) (by omega) (by omega)
      rw [show Nat.gcd x y = Nat.gcd y (x % y) by rw [Nat.gcd_comm x y, Nat.gcd_rec y x, Nat.gcd_comm]]
      exact key
theorem odds_e (n t : Nat) (hn : 6000 < n) (p1 p2 p3 : Int32) : zE t (fun σ => FX9_odds n σ p1 p2 p3) (fun σ => FX10_odds n σ p1 p2 p3) := by
  intro σx σm h
  obtain ⟨u, c, so, sn, ce, rc, rd, qs, br, ft, tr, hX, hM, hI⟩ := id h
  have hc : c < 2 ^ 31 := by have := hI.2.1; omega
  rcases z_cs p1 c hc with ⟨j, hj, rfl⟩ | ho
  · have hj6 : j < 6 := by have := hI.2.1; omega
    rcases z_cs p2 201 (by decide) with ⟨v, hv, rfl⟩ | ho2
    · have a1 : ¬ nI v < 0 := nI_pos (by omega)
      have a2 : ¬ (200 : Int32) < nI v := nI_nlt (b := v) (a := 200) (by omega) (by decide)
      have b2 : FX10_within n σm (nI v) 0 200 = some (1, σm) := within_in (a := 0) (b := 200) (by omega) (by omega) (by decide)
      rcases z_cs p3 2 (by decide) with ⟨w, hw, rfl⟩ | ho3
      · have a3 : ¬ nI w < 0 := nI_pos (by omega)
        have a4 : nI w ≤ 1 := nI_le (b := 1) (by omega) (by decide)
        have b3 : FX10_within n σm (nI w) 0 1 = some (1, σm) := within_in (a := 0) (b := 1) (by omega) (by omega) (by decide)
        have hb : ∀ kk, kk < 8 → uB (up2 u 2 j kk) (9 + t) := fun kk hk => uB_up hI.1 ⟨fun e => by omega, fun e => by omega, fun e => by omega, fun e => by omega, fun e => by omega⟩
        obtain ⟨σ1, q1, q2, q3, q4, q5⟩ := become_x (n := n) (by omega) hX.2.1
        obtain ⟨σ', g1, g2⟩ := ways_o (n := n) (by omega) hb hj6 (show v ≤ 200 by omega) n 8 0 σ1 (by omega) (by omega) q2 ⟨u 2 j, by rw [up2_id]; exact q3⟩
        have hg := wbO_le (u := u) (p := j) (v := v) 8
        generalize hgg : wbO u j v 8 = g at g1 hg
        have hcd := cd_gcd g (by omega)
        have gpos : 0 < Nat.gcd g 24 := Nat.gcd_pos_of_pos_right _ (by decide)
        have gle : Nat.gcd g 24 ≤ 24 := Nat.gcd_le_right _ (by decide)
        have hX2 : FX9_odds n σx (nI j) (nI v) (nI w) = some (if nI w = 0 then lN (g / Nat.gcd g 24) else lN (24 / Nat.gcd g 24), σ') := by
          unfold FX9_odds FX9_waysToBring FX9_commonDivisor
          have ne : ¬ nI (cdF g 24) = 0 := by rw [hcd]; exact nI_ne0 gpos (by omega)
          have d1 : g / Nat.gcd g 24 ≤ g := Nat.div_le_self _ _
          have d2 : 24 / Nat.gcd g 24 ≤ 24 := Nat.div_le_self _ _
          rw [hasPerson_in hX.1.1 hj hc, zbd_s, zif_neg (by decide), zif_neg a1, zif_neg a2, zif_neg a3, zif_pos a4, q1, zbd_s, show zlp (LX9_waysToBring_16 n) n (σ1, nI j, nI v, 0, 0) = _ from g1, zbd_s, show zlp (LX9_commonDivisor_2 n) n (σ', nI g, 24, 24) = _ from cd_lx (by omega) n 24 (by decide) (by decide) (by omega), zbd_s, zgd_t ne, zgd_t ne, hcd, pk_div (by omega) gpos (by omega), show (24 : Int32) / nI (Nat.gcd g 24) = nI (24 / Nat.gcd g 24) from pk_div (a := 24) (by decide) gpos (by omega), nI_l (by omega), nI_l (by omega)]
          by_cases e : nI w = 0
          · rw [zif_pos e, if_pos e]
          · rw [zif_neg e, if_neg e]
        refine ⟨_, σ', σm, hX2, ?_, zR_K h g2 mK.rf⟩
        show FX10_odds n σm _ _ _ = _
        unfold FX10_odds
        rw [isPerson_in hM.1.1 hj hc, zbd_s, zif_neg (by decide), b2, zbd_s, zif_neg (by decide), b3, zbd_s, zif_neg (by decide), zgd_in hj6 (by decide), zcl (by omega), show zlp (LX10_odds_46 n) n (σm, nI j, nI v, nI w, σm 7 j, 0, 0) = _ from modds_o (by omega) hM.2.1 hb hj6 (by omega) n 8 0 σm (by omega) (by omega) (fun x => rfl), hgg, nI_l (by omega)]
        unfold FX10_inLeastTerms
        rw [show zlp (LX10_inLeastTerms_6 n) n (σm, lN g, 24, nI w, lN g, 24) = _ from euc_lx (by omega) n g 24 (by omega) (by decide) (by omega) (by omega), zbd_s]
      · refine ⟨-9223372036854775808, σx, σm, ?_, ?_, zR_next h⟩
        · show FX9_odds n σx _ _ _ = _
          unfold FX9_odds
          rw [hasPerson_in hX.1.1 hj hc, zbd_s, zif_neg (by decide), zif_neg a1, zif_neg a2]
          by_cases q : p3 < 0
          · rw [zif_pos q]
          · rw [zif_neg q, zif_neg (show ¬ p3 ≤ 1 from Int32.not_le.mpr (Int32.lt_of_lt_of_le (nI_lt (a := 1) (b := 2) (by decide) (by decide)) (ho3.resolve_left q)))]
        · show FX10_odds n σm _ _ _ = _
          unfold FX10_odds
          rw [isPerson_in hM.1.1 hj hc, zbd_s, zif_neg (by decide), b2, zbd_s, zif_neg (by decide), within_out (show p3 < 0 ∨ 1 < p3 from z_cs' (b := 1) (by decide) ho3), zbd_s, zif_pos rfl]
    · refine ⟨-9223372036854775808, σx, σm, ?_, ?_, zR_next h⟩
      · show FX9_odds n σx _ _ _ = _
        unfold FX9_odds
        rw [hasPerson_in hX.1.1 hj hc, zbd_s, zif_neg (by decide)]
        by_cases q : p2 < 0
        · rw [zif_pos q]
        · rw [zif_neg q, zif_pos (show (200 : Int32) < p2 from Int32.lt_of_lt_of_le (nI_lt (a := 200) (b := 201) (by decide) (by decide)) (ho2.resolve_left q))]
      · show FX10_odds n σm _ _ _ = _
        unfold FX10_odds
        rw [isPerson_in hM.1.1 hj hc, zbd_s, zif_neg (by decide), within_out (show p2 < 0 ∨ 200 < p2 from z_cs' (b := 200) (by decide) ho2), zbd_s, zif_pos rfl]
  · refine ⟨-9223372036854775808, σx, σm, ?_, ?_, zR_next h⟩
    · show FX9_odds n σx _ _ _ = _
      unfold FX9_odds
      rw [hasPerson_out hX.1.1 ho, zbd_s, zif_pos rfl]
    · show FX10_odds n σm _ _ _ = _
      unfold FX10_odds
      rw [isPerson_out hM.1.1 ho, zbd_s, zif_pos rfl]
