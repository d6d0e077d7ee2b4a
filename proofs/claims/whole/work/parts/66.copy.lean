/-! ===== copy, reading, back ===== -/
theorem mcopy_f {n k a k' b m : Nat} {l6 : Int32} {ρ : Nat → Int32} (h1 : 60 * k + a + m ≤ 240) (h2 : 60 * k' + b + m ≤ 240) (hF : 60 * k' + b ≤ 60 * k + a ∨ 60 * k + a + m ≤ 60 * k' + b) : ∀ f r q (σ : zMem), q + r = m → r < f → (∀ x, σ 3 x = if 60 * k' + b ≤ x ∧ x < 60 * k' + b + q then ρ (60 * k + a + (x - (60 * k' + b))) else ρ x) → ∃ σ', zlp (LX10_copy_166 n) f (σ, nI k, nI a, nI k', nI b, nI m, l6, 0, nI q) = some (nI m, σ') ∧ (∀ o, o ≠ 3 → σ' o = σ o) ∧ ∀ x, σ' 3 x = if 60 * k' + b ≤ x ∧ x < 60 * k' + b + m then ρ (60 * k + a + (x - (60 * k' + b))) else ρ x := by
  intro f
  induction f with
  | zero => intro r q σ _ h; omega
  | succ f ih =>
    intro r q σ hk hf hσ
    rw [zlp_n]
    show ∃ σ', LBX10_copy_166 n _ σ (nI k) (nI a) (nI k') (nI b) (nI m) l6 0 (nI q) = _ ∧ _
    unfold LBX10_copy_166 BX10_copy_190
    cases r with
    | zero => exact ⟨σ, by rw [zif_pos (nI_le (by omega) (by omega))], fun _ _ => rfl, by rw [show m = q by omega]; exact hσ⟩
    | succ r =>
      rw [zif_neg (nI_ge (by omega) (by omega)), zif_pos rfl, z60, z60, nI_add, nI_add, zgd_in (show 60 * k + a + q < 240 by omega) (by decide), zgd_in (show 60 * k' + b + q < 240 by omega) (by decide), zlet_s, zcl (by omega), zcl (by omega), nI_1]
      obtain ⟨σ', g1, g2, g3⟩ := ih r (q + 1) (zst σ 3 (60 * k' + b + q) (σ 3 (60 * k + a + q))) (by omega) (by omega) (fun x => by
        by_cases e : x = 60 * k' + b + q
        · rw [e, zst_ss, hσ, if_neg (by omega), if_pos (by omega)]
          congr 1
          omega
        · rw [zst_sn e, hσ]
          by_cases e2 : 60 * k' + b ≤ x ∧ x < 60 * k' + b + q
          · rw [if_pos e2, if_pos (by omega)]
          · rw [if_neg e2, if_neg (by omega)])
      exact ⟨σ', g1, fun o ho => by rw [g2 o ho, zst_n ho], g3⟩
theorem mcopy_b {n k a k' b m : Nat} {l6 : Int32} {ρ : Nat → Int32} (h1 : 60 * k + a + m ≤ 240) (h2 : 60 * k' + b + m ≤ 240) (hF : 60 * k + a ≤ 60 * k' + b ∨ 60 * k' + b + m ≤ 60 * k + a) : ∀ f r q (σ : zMem), q + r = m → r < f → (∀ x, σ 3 x = if 60 * k' + b + r ≤ x ∧ x < 60 * k' + b + m then ρ (60 * k + a + (x - (60 * k' + b))) else ρ x) → ∃ σ', zlp (LX10_copy_166 n) f (σ, nI k, nI a, nI k', nI b, nI m, l6, 1, nI q) = some (nI m, σ') ∧ (∀ o, o ≠ 3 → σ' o = σ o) ∧ ∀ x, σ' 3 x = if 60 * k' + b ≤ x ∧ x < 60 * k' + b + m then ρ (60 * k + a + (x - (60 * k' + b))) else ρ x := by
  intro f
  induction f with
  | zero => intro r q σ _ h; omega
  | succ f ih =>
    intro r q σ hk hf hσ
    rw [zlp_n]
    show ∃ σ', LBX10_copy_166 n _ σ (nI k) (nI a) (nI k') (nI b) (nI m) l6 1 (nI q) = _ ∧ _
    unfold LBX10_copy_166 BX10_copy_190
    cases r with
    | zero => exact ⟨σ, by rw [zif_pos (nI_le (by omega) (by omega))], fun _ _ => rfl, fun x => hσ x⟩
    | succ r =>
      rw [zif_neg (nI_ge (by omega) (by omega)), zif_neg (by decide), show nI m - 1 = nI (m - 1) from pk_sub (b := 1) (by omega), pk_sub (show q ≤ m - 1 by omega), show m - 1 - q = r by omega, z60, z60, nI_add, nI_add, zgd_in (show 60 * k + a + r < 240 by omega) (by decide), zgd_in (show 60 * k' + b + r < 240 by omega) (by decide), zlet_s, zcl (by omega), zcl (by omega), nI_1]
      obtain ⟨σ', g1, g2, g3⟩ := ih r (q + 1) (zst σ 3 (60 * k' + b + r) (σ 3 (60 * k + a + r))) (by omega) (by omega) (fun x => by
        by_cases e : x = 60 * k' + b + r
        · rw [e, zst_ss, hσ, if_neg (by omega), if_pos (by omega)]
          congr 1
          omega
        · rw [zst_sn e, hσ]
          by_cases e2 : 60 * k' + b + (r + 1) ≤ x ∧ x < 60 * k' + b + m
          · rw [if_pos e2, if_pos (by omega)]
          · rw [if_neg e2, if_neg (by omega)])
      exact ⟨σ', g1, fun o ho => by rw [g2 o ho, zst_n ho], g3⟩
theorem holds_t {n o : Nat} {σ : zMem} {L i m : Int32} (hL : σ o 3 = L) (h : ¬ i < 0 ∧ ¬ L < i ∧ ¬ m < 0 ∧ ¬ L - i < m) : FX6_holds n o σ i m = some (1, σ) := by
  unfold FX6_holds
  rw [hL, zif_neg h.1, zif_neg h.2.1, zif_neg h.2.2.1, zif_neg h.2.2.2]
theorem holds_f {n o : Nat} {σ : zMem} {L i m : Int32} (hL : σ o 3 = L) (h : ¬ (¬ i < 0 ∧ ¬ L < i ∧ ¬ m < 0 ∧ ¬ L - i < m)) : FX6_holds n o σ i m = some (0, σ) := by
  unfold FX6_holds
  rw [hL]
  by_cases c1 : i < 0
  · rw [zif_pos c1]
  by_cases c2 : L < i
  · rw [zif_neg c1, zif_pos c2]
  by_cases c3 : m < 0
  · rw [zif_neg c1, zif_neg c2, zif_pos c3]
  by_cases c4 : L - i < m
  · rw [zif_neg c1, zif_neg c2, zif_neg c3, zif_pos c4]
  · exact absurd ⟨c1, c2, c3, c4⟩ h
theorem holds_n {L : Nat} {i m : Int32} (hL : L ≤ 60) (h : ¬ i < 0 ∧ ¬ nI L < i ∧ ¬ m < 0 ∧ ¬ nI L - i < m) : ∃ a b, i = nI a ∧ m = nI b ∧ a + b ≤ L := by
  obtain ⟨a, ha, rfl⟩ := nI_of h.1
  obtain ⟨b, hb, rfl⟩ := nI_of h.2.2.1
  have h1 : a ≤ L := by
    rcases Nat.lt_or_ge L a with q | q
    · exact absurd (nI_lt q ha) h.2.1
    · exact q
  have h2 := h.2.2.2
  rw [pk_sub h1] at h2
  have h3 : b ≤ L - a := by
    rcases Nat.lt_or_ge (L - a) b with q | q
    · exact absurd (nI_lt q hb) h2
    · exact q
  exact ⟨a, b, rfl, rfl, by omega⟩
theorem copy_e (n t : Nat) (hn : 100 < n) (p1 p2 p3 p4 p5 : Int32) : zE t (fun σ => FX9_copy n σ p1 p2 p3 p4 p5) (fun σ => FX10_copy n σ p1 p2 p3 p4 p5) := by
  intro σx σm h
  obtain ⟨u, c, so, sn, ce, rc, rd, qs, br, ft, tr, hX, hM, hI⟩ := id h
  have X1 := XB_ft hX 0
  have M1 := MB_ft hM 0
  have hR := zR_of X1 M1 hI
  rcases z_cs p1 4 (by decide) with ⟨k, hk, rfl⟩ | ho
  · rcases z_cs p3 4 (by decide) with ⟨k', hk', rfl⟩ | ho3
    · obtain ⟨x1, x2, x3, x4⟩ := X1.2.2.1 k hk
      obtain ⟨m1, m2, m3⟩ := M1.2.2.1 k hk
      obtain ⟨x1', x2', x3', x4'⟩ := X1.2.2.1 k' hk'
      obtain ⟨m1', m2', m3'⟩ := M1.2.2.1 k' hk'
      have hs := hI.2.2.1 k hk
      have hs' := hI.2.2.1 k' hk'
      have ck : (nI k).toNatClampNeg = k := zcl (by omega)
      have ck' : (nI k').toNatClampNeg = k' := zcl (by omega)
      have fl1 : zR (t + 1) (zst (zst σx 0 10 0) 0 10 1) (zst (zst σm 0 0 0) 0 0 1) := zR_of (XB_ft X1 1) (MB_ft M1 1) hI
      have fl2 : zR (t + 1) (zst (zst σx 0 10 0) 0 10 2) (zst (zst σm 0 0 0) 0 0 2) := zR_of (XB_ft X1 2) (MB_ft M1 2) hI
      have fl3 : zR (t + 1) (zst (zst σx 0 10 0) 0 10 3) (zst (zst σm 0 0 0) 0 0 3) := zR_of (XB_ft X1 3) (MB_ft M1 3) hI
      by_cases e : so k = 0
      · rw [if_pos e] at x1 m1
        refine ⟨-10 - 1, _, _, ?_, ?_, fl1⟩
        · show FX9_copy n σx _ _ _ _ _ = _
          unfold FX9_copy BX9_copy_53
          rw [zlet_s, isSheet_in hk, zbd_s, zif_neg (by decide), isSheet_in hk', zbd_s, zif_neg (by decide), zgd_in hk (by decide), zgd_in hk' (by decide), ck, x1, zif_pos rfl, failed_x, zbd_s]
        · show FX10_copy n σm _ _ _ _ _ = _
          unfold FX10_copy BX10_copy_43
          rw [zlet_s, misSheet_in hk, zbd_s, zif_neg (by decide), misSheet_in hk', zbd_s, zif_neg (by decide), zgd_in hk (by decide), ck, m1, zif_pos rfl, fails_x, zbd_s]
      by_cases e' : so k' = 0
      · rw [if_neg e] at x1 m1
        rw [if_pos e'] at x1' m1'
        refine ⟨-10 - 1, _, _, ?_, ?_, fl1⟩
        · show FX9_copy n σx _ _ _ _ _ = _
          unfold FX9_copy BX9_copy_53
          rw [zlet_s, isSheet_in hk, zbd_s, zif_neg (by decide), isSheet_in hk', zbd_s, zif_neg (by decide), zgd_in hk (by decide), zgd_in hk' (by decide), ck, ck', x1, zif_neg (by decide), x1', zif_pos rfl, failed_x, zbd_s]
        · show FX10_copy n σm _ _ _ _ _ = _
          unfold FX10_copy BX10_copy_43
          rw [zlet_s, misSheet_in hk, zbd_s, zif_neg (by decide), misSheet_in hk', zbd_s, zif_neg (by decide), zgd_in hk (by decide), ck, m1, zif_neg (so_ne hs.1 e), zgd_in hk' (by decide), ck', m1', zif_pos rfl, fails_x, zbd_s]
      rw [if_neg e] at x1 m1
      rw [if_neg e'] at x1' m1'
      have xa := x2 e
      have xa' := x2' e'
      by_cases e2 : so k - 1 = so k' - 1
      · have pX : ∀ {R : Option (Int32 × zMem)}, zbd (FX6_holds n (2 + k) (zst σx 0 10 0) p2 p5) (fun r22 σ21 => zif (r22 = 0) (BX9_copy_101 n σ21 (nI k) p2 (nI k') p4 p5 (2 + k) (2 + k')) (zbd (FX6_holds n (2 + k') σ21 p4 p5) (fun r26 σ25 => zif (r26 = 0) (BX9_copy_101 n σ25 (nI k) p2 (nI k') p4 p5 (2 + k) (2 + k')) (zgd ((¬ (p2 : Int32) < 0 ∧ ¬ (p4 : Int32) < 0 ∧ ¬ (p5 : Int32) < 0) ∧ (p2 : Int32).toNatClampNeg + (p5 : Int32).toNatClampNeg ≤ 60 ∧ (p4 : Int32).toNatClampNeg + (p5 : Int32).toNatClampNeg ≤ 60) (zlet (zsa σ25 (2 + k' + 4) (va_cpy (σ25 (2 + k + 4)) (σ25 (2 + k' + 4)) (p2 : Int32).toNatClampNeg (p4 : Int32).toNatClampNeg (p5 : Int32).toNatClampNeg)) (fun σ30 => some (p5, σ30))))))) = R → FX9_copy n σx (nI k) p2 (nI k') p4 p5 = R := by
          intro R hR
          unfold FX9_copy
          rw [zlet_s, isSheet_in hk, zbd_s, zif_neg (by decide), isSheet_in hk', zbd_s, zif_neg (by decide), zgd_in hk (by decide), zgd_in hk' (by decide), ck, ck', x1, zif_neg (by decide), x1', zif_neg (by decide), xa, xa', zif_pos (by rw [e2])]
          exact hR
        have pM : ∀ {R : Option (Int32 × zMem)}, zif (p2 < 0) (BX10_copy_109 n (zst σm 0 0 0) (nI k) p2 (nI k') p4 p5) (zif (p4 < 0) (BX10_copy_109 n (zst σm 0 0 0) (nI k) p2 (nI k') p4 p5) (zif (p5 < 0) (BX10_copy_109 n (zst σm 0 0 0) (nI k) p2 (nI k') p4 p5) (zif (nI (sn k) < p2) (BX10_copy_109 n (zst σm 0 0 0) (nI k) p2 (nI k') p4 p5) (zif (nI (sn k') < p4) (BX10_copy_109 n (zst σm 0 0 0) (nI k) p2 (nI k') p4 p5) (BX10_copy_110 n (zst σm 0 0 0) (nI k) p2 (nI k') p4 p5 1))))) = R → FX10_copy n σm (nI k) p2 (nI k') p4 p5 = R := by
          intro R hR
          unfold FX10_copy
          rw [zlet_s, misSheet_in hk, zbd_s, zif_neg (by decide), misSheet_in hk', zbd_s, zif_neg (by decide), zgd_in hk (by decide), ck, m1, zif_neg (so_ne hs.1 e), zgd_in hk' (by decide), ck', m1', zif_neg (so_ne hs'.1 e'), zgd_n hk (by decide), zgd_n hk' (by decide), zif_pos (by rw [e2]), zgd_n hk (by decide), m2, zgd_n hk' (by decide), m2']
          exact hR
        have b109 : BX10_copy_109 n (zst σm 0 0 0) (nI k) p2 (nI k') p4 p5 = some (-10 - 3, zst (zst σm 0 0 0) 0 0 3) := rfl
        have b144 : BX10_copy_144 n (zst σm 0 0 0) (nI k) p2 (nI k') p4 p5 1 = some (-10 - 3, zst (zst σm 0 0 0) 0 0 3) := rfl
        have b110 : BX10_copy_110 n (zst σm 0 0 0) (nI k) p2 (nI k') p4 p5 1 = zif (nI (sn k) - p2 < p5) (some (-10 - 3, zst (zst σm 0 0 0) 0 0 3)) (zif (p5 ≤ nI (sn k') - p4) (zif (p4 ≤ p2) (BX10_copy_161 n (zst σm 0 0 0) (nI k) p2 (nI k') p4 p5 1 0) (BX10_copy_161 n (zst σm 0 0 0) (nI k) p2 (nI k') p4 p5 1 1)) (some (-10 - 3, zst (zst σm 0 0 0) 0 0 3))) := by
          unfold BX10_copy_110
          rw [zif_neg (by decide), zgd_in hk (by decide), ck, m2, zgd_in hk' (by decide), ck', m2', b144]
        by_cases A : ¬ p2 < 0 ∧ ¬ nI (sn k) < p2 ∧ ¬ p5 < 0 ∧ ¬ nI (sn k) - p2 < p5
        · by_cases B : ¬ p4 < 0 ∧ ¬ nI (sn k') < p4 ∧ ¬ p5 < 0 ∧ ¬ nI (sn k') - p4 < p5
          · obtain ⟨a, m, ea, em, ham⟩ := holds_n hs.2 A
            obtain ⟨b, m', eb, em', hbm⟩ := holds_n hs'.2 B
            have em2 : m' = m := by
              have h1 : nI m = nI m' := by rw [← em, ← em']
              have := (nI_eq (a := m) (b := m') (by omega) (by omega)).mp h1
              omega
            subst em2
            have ρ0 : ∀ q i, q < 4 → i < 60 → zst σm 0 0 0 3 (60 * q + i) = ce q i := fun q i hq hi => (M1.2.2.1 q hq).2.2 i hi
            have hM2 : ∃ σ', (zif (p4 ≤ p2) (BX10_copy_161 n (zst σm 0 0 0) (nI k) p2 (nI k') p4 p5 1 0) (BX10_copy_161 n (zst σm 0 0 0) (nI k) p2 (nI k') p4 p5 1 1)) = some (p5, σ') ∧ (∀ o, o ≠ 3 → σ' o = zst σm 0 0 0 o) ∧ ∀ x, σ' 3 x = if 60 * k' + b ≤ x ∧ x < 60 * k' + b + m' then zst σm 0 0 0 3 (60 * k + a + (x - (60 * k' + b))) else zst σm 0 0 0 3 x := by
              unfold BX10_copy_161
              subst ea eb em'
              by_cases hle : b ≤ a
              · rw [zif_pos (nI_le hle (by omega))]
                exact mcopy_f (n := n) (l6 := 1) (ρ := zst σm 0 0 0 3) (by omega) (by omega) (by rcases Nat.lt_trichotomy k k' with q | q | q <;> omega) n m' 0 (zst σm 0 0 0) (by omega) (by omega) (fun x => by rw [if_neg (by omega)])
              · rw [zif_neg (nI_ge (by omega) (by omega))]
                exact mcopy_b (n := n) (l6 := 1) (ρ := zst σm 0 0 0 3) (by omega) (by omega) (by rcases Nat.lt_trichotomy k k' with q | q | q <;> omega) n m' 0 (zst σm 0 0 0) (by omega) (by omega) (fun x => by rw [if_neg (by omega)])
            obtain ⟨σ', g1, g2, g3⟩ := hM2
            have X2 : XB (zsa (zst σx 0 10 0) (2 + k' + 4) (va_cpy (zst σx 0 10 0 (2 + k + 4)) (zst σx 0 10 0 (2 + k' + 4)) a b m')) u c so sn (fun x y => if x = k' ∧ b ≤ y ∧ y < b + m' then ce k (a + (y - b)) else ce x y) rc rd qs br 0 tr := by
              refine XB_sh X1 (fun o ho => zsa_n (by omega)) (fun j hj => ?_)
              obtain ⟨y1, y2, y3, y4⟩ := X1.2.2.1 j hj
              rw [zsa_n (show 2 + j ≠ 2 + k' + 4 by omega)]
              refine ⟨y1, y2, y3, fun i hi => ?_⟩
              by_cases e : j = k'
              · subst e
                rw [zsa_s]
                by_cases e2 : b ≤ i ∧ i < b + m'
                · rw [pk_cpy_in e2.1 e2.2, if_pos ⟨rfl, e2⟩]
                  exact x4 _ (by omega)
                · rw [pk_cpy_out (by omega), if_neg (fun q => e2 q.2)]
                  exact y4 i hi
              · rw [zsa_n (by omega), if_neg (fun q => e q.1)]
                exact y4 i hi
            have M2 : MB σ' u c so sn (fun x y => if x = k' ∧ b ≤ y ∧ y < b + m' then ce k (a + (y - b)) else ce x y) rc rd qs br 0 tr := by
              refine MB_sh M1 (fun o ho => g2 o (by omega)) (fun j hj => ?_)
              obtain ⟨y1, y2, y3⟩ := M1.2.2.1 j hj
              rw [g2 1 (by decide), g2 2 (by decide)]
              refine ⟨y1, y2, fun i hi => ?_⟩
              rw [g3]
              by_cases e : j = k' ∧ b ≤ i ∧ i < b + m'
              · rw [if_pos e, if_pos (by obtain ⟨q, q2, q3⟩ := e; subst q; omega), show 60 * k + a + (60 * j + i - (60 * k' + b)) = 60 * k + (a + (i - b)) by obtain ⟨q, q2, q3⟩ := e; subst q; omega]
                exact ρ0 k _ hk (by omega)
              · rw [if_neg e, if_neg (by omega)]
                exact y3 i hi
            refine ⟨p5, _, σ', pX ?_, pM ?_, zR_of X2 M2 hI⟩
            · rw [holds_t x3 A, zbd_s, zif_neg (by decide), holds_t x3' B, zbd_s, zif_neg (by decide)]
              subst ea eb em'
              rw [zcl (show a < 2 ^ 31 by omega), zcl (show b < 2 ^ 31 by omega), zcl (show m' < 2 ^ 31 by omega), zgd_t ⟨⟨A.1, B.1, A.2.2.1⟩, by omega, by omega⟩, zlet_s]
            · rw [zif_neg A.1, zif_neg B.1, zif_neg A.2.2.1, zif_neg A.2.1, zif_neg B.2.1, b110, zif_neg A.2.2.2, zif_pos (Int32.not_lt.mp B.2.2.2)]
              exact g1
          · refine ⟨-10 - 3, _, _, pX ?_, pM ?_, fl3⟩
            · rw [holds_t x3 A, zbd_s, zif_neg (by decide), holds_f x3' B, zbd_s, zif_pos rfl]
              rfl
            · rw [zif_neg A.1, b109, zif_neg A.2.2.1, zif_neg A.2.1, b110, zif_neg A.2.2.2]
              by_cases q1 : p4 < 0
              · rw [zif_pos q1]
              by_cases q2 : nI (sn k') < p4
              · rw [zif_neg q1, zif_pos q2]
              · rw [zif_neg q1, zif_neg q2, zif_neg (fun q => B ⟨q1, q2, A.2.2.1, Int32.not_lt.mpr q⟩)]
        · refine ⟨-10 - 3, _, _, pX ?_, pM ?_, fl3⟩
          · rw [holds_f x3 A, zbd_s, zif_pos rfl]
            rfl
          · rw [b109, b110]
            by_cases q1 : p2 < 0
            · rw [zif_pos q1]
            by_cases q2 : p4 < 0
            · rw [zif_neg q1, zif_pos q2]
            by_cases q3 : p5 < 0
            · rw [zif_neg q1, zif_neg q2, zif_pos q3]
            by_cases q4 : nI (sn k) < p2
            · rw [zif_neg q1, zif_neg q2, zif_neg q3, zif_pos q4]
            by_cases q5 : nI (sn k') < p4
            · rw [zif_neg q1, zif_neg q2, zif_neg q3, zif_neg q4, zif_pos q5]
            · rw [zif_neg q1, zif_neg q2, zif_neg q3, zif_neg q4, zif_neg q5]
              by_cases q6 : nI (sn k) - p2 < p5
              · rw [zif_pos q6]
              · exact absurd ⟨q1, q4, q3, q6⟩ A
      · refine ⟨-10 - 2, _, _, ?_, ?_, fl2⟩
        · show FX9_copy n σx _ _ _ _ _ = _
          unfold FX9_copy
          rw [zlet_s, isSheet_in hk, zbd_s, zif_neg (by decide), isSheet_in hk', zbd_s, zif_neg (by decide), zgd_in hk (by decide), zgd_in hk' (by decide), ck, ck', x1, zif_neg (by decide), x1', zif_neg (by decide), xa, xa', zif_neg (nI_ne (by omega) (by omega) e2), failed_x, zbd_s]
        · show FX10_copy n σm _ _ _ _ _ = _
          unfold FX10_copy
          rw [zlet_s, misSheet_in hk, zbd_s, zif_neg (by decide), misSheet_in hk', zbd_s, zif_neg (by decide), zgd_in hk (by decide), ck, m1, zif_neg (so_ne hs.1 e), zgd_in hk' (by decide), ck', m1', zif_neg (so_ne hs'.1 e'), zgd_n hk (by decide), zgd_n hk' (by decide), zif_neg (nI_ne (by omega) (by omega) e2), fails_x, zbd_s]
    · refine ⟨-1, zst σx 0 10 0, zst σm 0 0 0, ?_, ?_, hR⟩
      · show FX9_copy n σx _ _ _ _ _ = _
        unfold FX9_copy
        rw [zlet_s, isSheet_in hk, zbd_s, zif_neg (by decide), isSheet_out ho3, zbd_s, zif_pos rfl]
      · show FX10_copy n σm _ _ _ _ _ = _
        unfold FX10_copy
        rw [zlet_s, misSheet_in hk, zbd_s, zif_neg (by decide), misSheet_out ho3, zbd_s, zif_pos rfl]
  · refine ⟨-1, zst σx 0 10 0, zst σm 0 0 0, ?_, ?_, hR⟩
    · show FX9_copy n σx _ _ _ _ _ = _
      unfold FX9_copy
      rw [zlet_s, isSheet_out ho, zbd_s, zif_pos rfl]
    · show FX10_copy n σm _ _ _ _ _ = _
      unfold FX10_copy
      rw [zlet_s, misSheet_out ho, zbd_s, zif_pos rfl]
