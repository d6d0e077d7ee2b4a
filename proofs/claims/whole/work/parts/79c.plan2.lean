/-! ===== plan, the reference's side ===== -/
theorem fc_le : ∀ d, d < 8 → fc d ≤ 5040 := by decide
theorem orders_x {n L : Nat} {σ : zMem} (hn : 20 < n) (hL : L < 8) : FX10_ordersOf n σ (nI L) = some (nI (fc L), σ) := by
  have key : ∀ f r j, j + r = L → 1 ≤ j → r < f → zlp (LX10_ordersOf_4 n) f (σ, nI L, nI (fc j), nI (j + 1)) = some (nI (fc L), σ) := by
    intro f
    induction f with
    | zero => intro r j _ _ h; omega
    | succ f ih =>
      intro r j hr hj hf
      rw [zlp_n]
      show LBX10_ordersOf_4 n _ σ (nI L) (nI (fc j)) (nI (j + 1)) = _
      unfold LBX10_ordersOf_4
      cases r with
      | zero => rw [zif_pos (nI_lt (by omega) (by omega)), show j = L by omega]
      | succ r =>
        rw [zif_neg (nI_nlt (by omega) (by omega)), pk_mul, nI_1, Nat.mul_comm]
        exact ih r (j + 1) (by omega) (by omega) (by omega)
  cases L with
  | zero =>
    obtain ⟨N, rfl⟩ : ∃ N, n = N + 1 := ⟨n - 1, by omega⟩
    unfold FX10_ordersOf
    rw [zlp_n]
    show LBX10_ordersOf_4 (N + 1) _ σ (nI 0) 1 2 = _
    unfold LBX10_ordersOf_4
    rw [zif_pos (by decide)]
    rfl
  | succ L => exact key n L 1 (by omega) (by omega) (by omega)
theorem orders_1 {n L : Nat} {σ : zMem} (hn : 20 < n) (hL : L < 8) : FX10_ordersOf n σ (nI L - 1) = some (nI (fc (L - 1)), σ) := by
  cases L with
  | zero =>
    obtain ⟨N, rfl⟩ : ∃ N, n = N + 1 := ⟨n - 1, by omega⟩
    unfold FX10_ordersOf
    rw [zlp_n]
    show LBX10_ordersOf_4 (N + 1) _ σ (nI 0 - 1) 1 2 = _
    unfold LBX10_ordersOf_4
    rw [zif_pos (by decide)]
    rfl
  | succ L => rw [nI_pred]; exact orders_x hn (by omega)
theorem isOfX {n m p : Nat} {σ : zMem} (hm : m < 128) (hp : p < 7) : FX10_isOf n σ (nI m) (nI p) = some (if m.testBit p = true then 1 else 0, σ) := by
  unfold FX10_isOf
  rw [bitX m hm p hp]
  cases hb : m.testBit p with
  | true => rw [if_pos rfl, zif_pos rfl]
  | false => rw [if_neg (by decide), zif_neg (by decide)]
theorem kth_ge {m : Nat} : ∀ f k p, p ≤ kth m f k p
  | 0, k, p => Nat.le_refl p
  | f + 1, k, p => by
    have h1 := kth_ge (m := m) f k (p + 1)
    have h2 := kth_ge (m := m) f (k - 1) (p + 1)
    unfold kth
    split
    · omega
    · split <;> omega
theorem fr_36 {n L m s P : Nat} {σ : zMem} {k16 : zMem × Int32 × Int32 × Int32 × Int32 × Int32 × Int32 → Option (Int32 × zMem)} {l1 l3 : Int32} (hL : L < 8) (hs : s < L) (hm : m < 128) (hP : P < 7) : ∀ f g k p, kth m g k p = P → p + g = 8 → g < f → k < 8 → zlp (LX10_findRow_36 n k16) f (σ, l1, nI L, l3, nI (fc (L - 1 - s)), nI m, nI s, nI k, nI p) = k16 (zst σ 13 s (nI P), l1, nI L, l3, nI (fc (L - 1 - (s + 1))), nI (om m P), nI (s + 1)) := by
  intro f
  induction f with
  | zero => intro g k p _ _ h; omega
  | succ f ih =>
    intro g k p hk hg hf hk8
    have hge := kth_ge (m := m) g k p
    rw [zlp_n]
    show LBX10_findRow_36 n k16 _ σ l1 (nI L) l3 (nI (fc (L - 1 - s))) (nI m) (nI s) (nI k) (nI p) = _
    unfold LBX10_findRow_36 BX10_findRow_51 BX10_findRow_68
    cases g with
    | zero => omega
    | succ g =>
      have hp7 : p < 7 := by omega
      unfold kth at hk
      rw [isOfX hm hp7, zbd_s, isOfX hm hp7, zbd_s]
      cases hb : m.testBit p with
      | true =>
        rw [hb, if_pos rfl] at hk
        rw [if_pos rfl, zif_neg (by decide), zif_neg (by decide), show nI k - 0 = nI k from pk_sub (b := 0) (by omega), nI_1]
        exact ih g k (p + 1) hk (by omega) (by omega) hk8
      | false =>
        rw [hb, if_neg (by decide)] at hk
        rw [if_neg (by decide), zif_pos rfl, zif_pos rfl]
        by_cases e : k = 0
        · rw [if_pos e] at hk
          subst hk
          rw [e, zif_pos (by decide), zgd_in (show s < 7 by omega) (by decide), zcl (by omega), zlet_s, pk_sub (by omega), show nI (L - s) - 1 = nI (L - s - 1) from pk_sub (b := 1) (by omega), om_x m hm p hP, nI_1]
          by_cases e2 : L - s - 1 ≤ 1
          · rw [zif_pos (show nI (L - s - 1) ≤ 1 from nI_le (b := 1) e2 (by decide)), show fc (L - 1 - (s + 1)) = 1 by rw [show L - 1 - (s + 1) = 0 by omega]; rfl]
            rfl
          · rw [zif_neg (show ¬ nI (L - s - 1) ≤ 1 from nI_ge (a := 1) (by omega) (by omega)), zgd_t (nI_ne0 (by omega) (by omega)), pk_div (by have := fc_le (L - 1 - s) (by omega); omega) (by omega) (by omega), show fc (L - 1 - s) / (L - s - 1) = fc (L - 1 - (s + 1)) by
              rw [show L - 1 - s = L - 1 - (s + 1) + 1 by omega, show L - s - 1 = L - 1 - (s + 1) + 1 by omega]
              exact Nat.mul_div_cancel_left _ (by omega)]
        · rw [if_neg e] at hk
          rw [zif_neg (nI_nle (by omega) (by omega)), show nI k - 1 = nI (k - 1) from pk_sub (b := 1) (by omega), nI_1]
          exact ih g (k - 1) (p + 1) hk (by omega) (by omega) (by omega)
theorem findRow_x {n L i : Nat} {σ : zMem} (hn : 20 < n) (hL : L < 8) (hi : i < fc L) : ∃ σ', FX10_findRow n σ (nI i) (nI L) = some (0, σ') ∧ (∀ o, o ≠ 13 → σ' o = σ o) ∧ ∀ q, q < L → σ' 13 q = nI (dP L i q) := by
  have key : ∀ f r s (τ : zMem), s + r = L → r < f → (∀ q, q < s → τ 13 q = nI (dP L i q)) → ∃ σ', zlp (LX10_findRow_16 n) f (τ, nI i, nI L, nI (dM L i s).2, nI (fc (L - 1 - s)), nI (dM L i s).1, nI s) = some (0, σ') ∧ (∀ o, o ≠ 13 → σ' o = τ o) ∧ ∀ q, q < L → σ' 13 q = nI (dP L i q) := by
    intro f
    induction f with
    | zero => intro r s τ _ h; omega
    | succ f ih =>
      intro r s τ hr hf hq
      rw [zlp_n]
      show ∃ σ', LBX10_findRow_16 n _ τ (nI i) (nI L) (nI (dM L i s).2) (nI (fc (L - 1 - s))) (nI (dM L i s).1) (nI s) = _ ∧ _
      unfold LBX10_findRow_16
      cases r with
      | zero =>
        rw [show s = L by omega] at hq ⊢
        exact ⟨τ, by rw [zif_pos (nI_le (by omega) (by omega))], fun _ _ => rfl, hq⟩
      | succ r =>
        obtain ⟨d1, d2, d3, d4⟩ := dM_ok hL hi s (by omega)
        obtain ⟨f1, f2, f3⟩ := d4 (by omega)
        have l1 := fc_le (L - 1 - s) (by omega)
        have l2 := fc_le (L - s) (by omega)
        have l3 := fc_pos (L - 1 - s)
        have hm7 := Nat.lt_of_lt_of_le d1 (p2_le hL)
        have nz := nI_ne0 l3 (by omega)
        rw [zif_neg (nI_ge (by omega) (by omega)), zgd_t nz, zgd_t nz, pk_div (by omega) l3 (by omega), pk_mul, pk_sub (Nat.div_mul_le_self _ _), modS, show (0 : Int32) = nI 0 from rfl, fr_36 hL (show s < L by omega) hm7 (show dP L i s < 7 by omega) n 8 _ 0 rfl rfl (by omega) (by omega)]
        obtain ⟨σ', g1, g2, g3⟩ := ih r (s + 1) (zst τ 13 s (nI (dP L i s))) (by omega) (by omega) (fun q h1 => by
          by_cases e : q = s
          · rw [e, zst_ss]
          · rw [zst_sn e]; exact hq q (by omega))
        exact ⟨σ', g1, fun o ho => by rw [g2 o ho, zst_n ho], g3⟩
  unfold FX10_findRow
  rw [orders_1 hn hL, zbd_s]
  exact key n L 0 σ (by omega) (by omega) (fun q hq => by omega)
theorem brought_x {n c L k b i T : Nat} {u : Nat → Nat → Nat} {cl : Nat → Int32} {σ : zMem} (hn : 20 < n) (h0 : 0 < c) (h6 : c ≤ 6) (hL : L < 8) (hk : k < 4) (hb : b + L ≤ 60) (hi : i < fc L) (hv : mV σ u) (hB : uB u T) (hcl : ∀ p, p < L → σ 3 (60 * k + (b + p)) = nI (mtN cl p)) (h13 : ∀ q, q < L → σ 13 q = nI (dP L i q)) (h14 : ∀ q, q < L → σ 14 q = nI (who u c q)) : FX10_broughtByRow n σ (nI (60 * k + b)) (nI L) = some (nI (sv (pW u c cl) L 0 i), σ) := by
  have key : ∀ f r s, s + r = L → r < f → zlp (LX10_broughtByRow_5 n) f (σ, nI (60 * k + b), nI L, nI (sumR (pW u c cl) L i s), nI s) = some (nI (sumR (pW u c cl) L i L), σ) := by
    intro f
    induction f with
    | zero => intro r s _ h; omega
    | succ f ih =>
      intro r s hr hf
      rw [zlp_n]
      show LBX10_broughtByRow_5 n _ σ (nI (60 * k + b)) (nI L) (nI (sumR (pW u c cl) L i s)) (nI s) = _
      unfold LBX10_broughtByRow_5
      cases r with
      | zero => rw [zif_pos (nI_le (by omega) (by omega)), show s = L by omega]
      | succ r =>
        obtain ⟨f1, -, -⟩ := (dM_ok hL hi s (by omega)).2.2.2 (by omega)
        have hw := who_lt (u := u) (s := s) h0
        rw [zif_neg (nI_ge (by omega) (by omega)), zgd_in (show s < 7 by omega) (by decide), zgd_in (show s < 7 by omega) (by decide), zcl (show s < 2 ^ 31 by omega), h13 s (by omega), h14 s (by omega), nI_add, zgd_in (show 60 * k + b + dP L i s < 240 by omega) (by decide), zcl (by omega), Nat.add_assoc, hcl _ f1, bringsOf_x hv hB (by omega) mtN_lt, zbd_s, nI_add, nI_1]
        exact ih r (s + 1) (by omega) (by omega)
  rw [← sum_is hL hi]
  exact key n L 0 (by omega) (by omega)
theorem uI_s {u : Nat → Nat → Nat} {c s p : Nat} : uI u c (s + 1) 1 p = if p = who u c s then uI u c s 1 (who u c s) + 1 else uI u c s 1 p := by
  by_cases e : p = who u c s
  · rw [if_pos e]
    exact if_pos ⟨rfl, e⟩
  · rw [if_neg e]
    exact if_neg (fun z => e z.2)
theorem mD_14 {c : Nat} {σ0 σ : zMem} {j : Nat} {v : Int32} (h : mD c σ0 σ) : mD c σ0 (zst σ 14 j v) := ⟨fun k hk => by rw [zst_n (by decide)]; exact h.1 k hk, fun o ho => by rw [zst_n (by omega)]; exact h.2.1 o ho, fun p hp => by rw [zst_n (by decide), zst_n (by decide)]; exact h.2.2.1 p hp, fun p hp => by rw [zst_n (by decide), zst_n (by decide)]; exact h.2.2.2 p hp⟩
theorem findAsked_x {n c L T : Nat} {u : Nat → Nat → Nat} {σ : zMem} (hn : 20 < n) (h0 : 0 < c) (h6 : c ≤ 6) (hL : L < 8) (hc : σ 0 5 = nI c) (hv : mV σ u) (hB : uB u T) (hT : T < 1000) : ∃ σ', FX10_findAsked n σ (nI L) = some (0, σ') ∧ mK σ σ' ∧ ∀ q, q < L → σ' 14 q = nI (who u c q) := by
  have key : ∀ f r s (τ : zMem), s + r = L → r < f → mD c σ τ → τ 0 5 = nI c → (∀ p, p < 6 → τ 6 p = nI (uI u c s 1 p)) → (∀ q, q < s → τ 14 q = nI (who u c q)) → ∃ σ', zlp (LX10_findAsked_6 n) f (τ, nI L, nI s) = some (0, σ') ∧ mK σ σ' ∧ ∀ q, q < L → σ' 14 q = nI (who u c q) := by
    intro f
    induction f with
    | zero => intro r s τ _ h; omega
    | succ f ih =>
      intro r s τ hr hf hD hc1 hv1 hq
      rw [zlp_n]
      show ∃ σ', LBX10_findAsked_6 n _ τ (nI L) (nI s) = _ ∧ _
      unfold LBX10_findAsked_6
      cases r with
      | zero =>
        rw [show s = L by omega] at hq ⊢
        obtain ⟨σ', g1, g2, g3⟩ := putBack_x (n := n) (by omega) hc1 h6 hD
        exact ⟨σ', by rw [zif_pos (nI_le (by omega) (by omega)), g1, zbd_s], g2, fun q h1 => by rw [g3 14 (by decide) (by decide)]; exact hq q h1⟩
      | succ r =>
        have hw := who_lt (u := u) (s := s) h0
        have hBs := uI_B h0 h6 hB s
        have fx : FX10_firstOf n τ = some (nI (who u c s), τ) := firstOf_x (by omega) hc1 h6 h0 hv1 (fun p hp => by have := (hBs.1 p hp).2.1; omega)
        have a1 : zst τ 14 s (nI (who u c s)) 6 (who u c s) = nI (uI u c s 1 (who u c s)) := by rw [zst_n (by decide)]; exact hv1 _ (by omega)
        rw [zif_neg (nI_ge (by omega) (by omega)), fx, zbd_s, zgd_in (show s < 7 by omega) (by decide), zcl (show s < 2 ^ 31 by omega), zlet_s, zgd_n (show s < 7 by omega) (by decide), zst_ss, zgd_in (show who u c s < 6 by omega) (by decide), zgd_in (show who u c s < 6 by omega) (by decide), zcl (by omega), a1, zlet_s, nI_1, nI_1]
        refine ih r (s + 1) _ (by omega) (by omega) (mD_ask (mD_14 hD) hw) (by rw [zst_n (by decide), zst_n (by decide)]; exact hc1) (fun p hp => ?_) (fun q h1 => ?_)
        · rw [uI_s]
          by_cases e : p = who u c s
          · rw [if_pos e, e, zst_ss]
          · rw [if_neg e, zst_sn e, zst_n (by decide)]; exact hv1 p hp
        · rw [zst_n (by decide)]
          by_cases e : q = s
          · rw [e, zst_ss]
          · rw [zst_sn e]; exact hq q (by omega)
  obtain ⟨σ3, k1, k2, k3⟩ := keep_x (n := n) (by omega) hc h6
  unfold FX10_findAsked
  rw [k1, zbd_s]
  exact key n L 0 σ3 (by omega) (by omega) k2 (by rw [k3 0 (by decide) (by decide)]; exact hc) (fun p hp => by rw [k3 6 (by decide) (by decide)]; exact hv.1 p hp 1 (by decide)) (fun q hq => by omega)
def plE (L : Nat) (bvv : Nat) (n gi : Nat) (p : Int32) (σ : zMem) : Option (Int32 × zMem) := zif (p = -1) (some (nI bvv, σ)) (zbd (FX10_findRow n σ (nI gi) (nI L)) (fun _ σ6 => zif (nI L ≤ p) (some (-9, σ6)) (zgd (¬ (p < 0 ∨ 7 ≤ p.toNatClampNeg)) (some (σ6 13 p.toNatClampNeg, σ6)))))
theorem planOf_l {n c L k b T : Nat} {u : Nat → Nat → Nat} {cl ce : Nat → Int32} {σ0 : zMem} {p3 : Int32} (hn : 20 < n) (h0 : 0 < c) (h6 : c ≤ 6) (hL : L < 8) (hk : k < 4) (hb : b + L ≤ 60) (hv : mV σ0 u) (hB : uB u T) (hce : ∀ p, p < L → σ0 3 (60 * k + (b + p)) = nI (mtN cl p)) : ∀ f r i (σ : zMem) (l4 l5 : Int32), i + r = fc L → r < f → mK σ0 σ → (∀ q, q < L → σ 14 q = nI (who u c q)) → ((i = 0 ∧ l4 = -9) ∨ (0 < i ∧ i ≤ gI (pW u c cl) L L 0 ∧ ∃ m s, m < fc L ∧ l4 = nI m ∧ l5 = nI s ∧ s < bv (pW u c cl) L L 0) ∨ (gI (pW u c cl) L L 0 < i ∧ l4 = nI (gI (pW u c cl) L L 0) ∧ l5 = nI (bv (pW u c cl) L L 0))) → ∃ σ', zlp (LX10_planOf_15 n) f (σ, nI (60 * k + b), nI L, p3, l4, l5, nI i) = plE L (bv (pW u c cl) L L 0) n (gI (pW u c cl) L L 0) p3 σ' ∧ mK σ0 σ' := by
  have bl : bv (pW u c cl) L L 0 ≤ L * 162 := bv_le (fun s p => pW_le h0 h6 hB) L 0
  have fl := fc_le L hL
  have fp := fc_pos L
  obtain ⟨m1, m2, m3, m4⟩ := plan_main (W := pW u c cl) hL L 0 (Nat.pow_pos (by decide)) (by rw [show pop 0 = 0 from by decide]; omega)
  intro f
  induction f with
  | zero => intro r i σ l4 l5 _ h; omega
  | succ f ih =>
    intro r i σ l4 l5 hr hf hK hq hI
    rw [zlp_n]
    show ∃ σ', LBX10_planOf_15 n _ σ (nI (60 * k + b)) (nI L) p3 l4 l5 (nI i) = _ ∧ _
    unfold LBX10_planOf_15 BX10_planOf_53
    rw [orders_x hn hL, zbd_s]
    cases r with
    | zero =>
      rcases hI with hI | hI | ⟨i1, i2, i3⟩
      · omega
      · omega
      · exact ⟨σ, by rw [zif_pos (nI_le (by omega) (by omega)), i2, i3]; rfl, hK⟩
    | succ r =>
      have hi : i < fc L := by omega
      obtain ⟨σ1, g1, g2, g3⟩ := findRow_x (σ := σ) hn hL hi
      have K1 : mK σ0 σ1 := hK.tr ⟨fun j _ => by rw [g2 0 (by decide)], fun o ho => g2 o (by omega)⟩
      have br := brought_x (n := n) (k := k) (b := b) (cl := cl) hn h0 h6 hL hk hb hi (mV_K hv K1) hB (fun p hp => by rw [K1.2 3 (by omega)]; exact hce p hp) g3 (fun q h1 => by rw [g2 14 (by decide)]; exact hq q h1)
      have q1 : ∀ q, q < L → σ1 14 q = nI (who u c q) := fun q h1 => by rw [g2 14 (by decide)]; exact hq q h1
      have sl := m3 i hi
      rw [zif_neg (nI_ge hi (by omega)), g1, zbd_s, br, zbd_s, nI_1]
      have up : i ≤ gI (pW u c cl) L L 0 → ∃ σ', zlp (LX10_planOf_15 n) f (σ1, nI (60 * k + b), nI L, p3, nI i, nI (sv (pW u c cl) L 0 i), nI (i + 1)) = plE L (bv (pW u c cl) L L 0) n (gI (pW u c cl) L L 0) p3 σ' ∧ mK σ0 σ' := by
        intro hle
        refine ih r (i + 1) σ1 _ _ (by omega) (by omega) K1 q1 ?_
        rcases Nat.lt_or_ge i (gI (pW u c cl) L L 0) with q | q
        · exact Or.inr (Or.inl ⟨by omega, q, i, _, hi, rfl, rfl, m4 i q⟩)
        · have e : i = gI (pW u c cl) L L 0 := by omega
          exact Or.inr (Or.inr ⟨by omega, by rw [e], by rw [e, m2]⟩)
      rcases hI with ⟨i1, i2⟩ | ⟨i1, i2, m, s, i3, i4, i5, i6⟩ | ⟨i1, i2, i3⟩
      · rw [zif_pos i2]
        exact up (by omega)
      · rw [i4, i5, zif_neg (nI_ne9 (by omega))]
        by_cases e : s < sv (pW u c cl) L 0 i
        · rw [zif_neg (nI_ge e (by omega))]
          exact up i2
        · rw [zif_pos (nI_le (by omega) (by omega))]
          refine ih r (i + 1) σ1 _ _ (by omega) (by omega) K1 q1 (Or.inr (Or.inl ⟨by omega, ?_, m, s, i3, rfl, rfl, i6⟩))
          rcases Nat.lt_or_ge i (gI (pW u c cl) L L 0) with q | q
          · exact q
          · have e2 : i = gI (pW u c cl) L L 0 := by omega
            rw [e2, m2] at e
            exact absurd i6 e
      · rw [i2, i3, zif_neg (nI_ne9 (by omega)), zif_pos (nI_le sl (by omega))]
        exact ih r (i + 1) σ1 _ _ (by omega) (by omega) K1 q1 (Or.inr (Or.inr ⟨by omega, rfl, rfl⟩))
