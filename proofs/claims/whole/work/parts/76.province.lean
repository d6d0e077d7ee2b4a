/-! ===== province ===== -/
theorem take2_lx {n cnt : Nat} (h6 : cnt ≤ 6) : ∀ f k i (σ : zMem), i + k = cnt → k < f → σ 0 5 = nI cnt → ∃ σ', zlp (LX10_takeProvince_35 n) f (σ, nI i) = some (0, σ') ∧ (∀ o, o ≠ 0 → (o < 5 ∨ 9 ≤ o) → σ' o = σ o) ∧ (∀ j, j ≠ 6 → j ≠ 7 → j ≠ 28 → σ' 0 j = σ 0 j) ∧ σ' 0 6 = 0 ∧ σ' 0 7 = 0 ∧ σ' 0 28 = 0 ∧ ∀ g, g < 4 → ∀ q, σ' (5 + g) q = if i ≤ q ∧ q < cnt then σ 10 (4 * q + g) else σ (5 + g) q := by
  intro f
  induction f with
  | zero => intro k i σ _ h; omega
  | succ f ih =>
    intro k i σ hk hf hc
    rw [zlp_n]
    show ∃ σ', LBX10_takeProvince_35 n _ σ (nI i) = _ ∧ _
    unfold LBX10_takeProvince_35
    rw [hc]
    cases k with
    | zero =>
      rw [zif_pos (nI_le (by omega) (by omega)), zlet_s, zlet_s, zlet_s]
      refine ⟨_, rfl, fun o h1 h2 => by rw [zst_n h1, zst_n h1, zst_n h1], fun j h1 h2 h3 => by rw [zst_sn h3, zst_sn h2, zst_sn h1], ?_, ?_, zst_ss, fun g hg q => ?_⟩
      · rw [zst_sn (by decide), zst_sn (by decide), zst_ss]
      · rw [zst_sn (by decide), zst_ss]
      · rw [zst_n (by omega), zst_n (by omega), zst_n (by omega), if_neg (by omega)]
    | succ k =>
      have i6 : i < 6 := by omega
      have e0 : (4 : Int32) * nI i = nI (4 * i) := pk_mul 4 i
      rw [zif_neg (nI_ge (by omega) (by omega)), e0, show nI (4 * i) + 1 = nI (4 * i + 1) from nI_add _ 1, show nI (4 * i) + 2 = nI (4 * i + 2) from nI_add _ 2, show nI (4 * i) + 3 = nI (4 * i + 3) from nI_add _ 3, zgd_in (show 4 * i < 24 by omega) (by decide), zgd_in i6 (by decide), zlet_s, zgd_in (show 4 * i + 1 < 24 by omega) (by decide), zgd_in i6 (by decide), zlet_s, zgd_in (show 4 * i + 2 < 24 by omega) (by decide), zgd_in i6 (by decide), zlet_s, zgd_in (show 4 * i + 3 < 24 by omega) (by decide), zgd_in i6 (by decide), zlet_s, zcl (show 4 * i < 2 ^ 31 by omega), zcl (show 4 * i + 1 < 2 ^ 31 by omega), zcl (show 4 * i + 2 < 2 ^ 31 by omega), zcl (show 4 * i + 3 < 2 ^ 31 by omega), zcl (show i < 2 ^ 31 by omega), nI_1]
      generalize e1 : zst σ 5 i (σ 10 (4 * i)) = σ1
      generalize e2 : zst σ1 6 i (σ1 10 (4 * i + 1)) = σ2
      generalize e3 : zst σ2 7 i (σ2 10 (4 * i + 2)) = σ3
      generalize e4 : zst σ3 8 i (σ3 10 (4 * i + 3)) = σ4
      have s1 : σ1 10 = σ 10 := by rw [← e1, zst_n (by decide)]
      have s2 : σ2 10 = σ 10 := by rw [← e2, zst_n (by decide), s1]
      have s3 : σ3 10 = σ 10 := by rw [← e3, zst_n (by decide), s2]
      have s4 : ∀ o, o < 5 ∨ 9 ≤ o → σ4 o = σ o := fun o ho => by rw [← e4, zst_n (by omega), ← e3, zst_n (by omega), ← e2, zst_n (by omega), ← e1, zst_n (by omega)]
      have r0 : σ4 5 = zst σ 5 i (σ 10 (4 * i)) 5 := by rw [← e4, zst_n (by decide), ← e3, zst_n (by decide), ← e2, zst_n (by decide), ← e1]
      have r1 : σ4 6 = zst σ 6 i (σ 10 (4 * i + 1)) 6 := by rw [← e4, zst_n (by decide), ← e3, zst_n (by decide), ← e2, zst_s, zst_s, s1, ← e1, zst_n (by decide)]
      have r2 : σ4 7 = zst σ 7 i (σ 10 (4 * i + 2)) 7 := by rw [← e4, zst_n (by decide), ← e3, zst_s, zst_s, s2, ← e2, zst_n (by decide), ← e1, zst_n (by decide)]
      have r3 : σ4 8 = zst σ 8 i (σ 10 (4 * i + 3)) 8 := by rw [← e4, zst_s, zst_s, s3, ← e3, zst_n (by decide), ← e2, zst_n (by decide), ← e1, zst_n (by decide)]
      have rg : ∀ g, g < 4 → ∀ q, σ4 (5 + g) q = if q = i then σ 10 (4 * i + g) else σ (5 + g) q := by
        intro g hg q
        rcases (show g = 0 ∨ g = 1 ∨ g = 2 ∨ g = 3 by omega) with rfl | rfl | rfl | rfl
        · show σ4 5 q = _
          rw [r0, zst_s]; rfl
        · show σ4 6 q = _
          rw [r1, zst_s]; rfl
        · show σ4 7 q = _
          rw [r2, zst_s]; rfl
        · show σ4 8 q = _
          rw [r3, zst_s]; rfl
      obtain ⟨σ', h1, h2, h3, h4, h5, h7, h8⟩ := ih k (i + 1) σ4 (by omega) (by omega) (by rw [s4 0 (by omega)]; exact hc)
      refine ⟨σ', h1, fun o a b => by rw [h2 o a b, s4 o b], fun j a b d => by rw [h3 j a b d, s4 0 (by omega)], h4, h5, h7, fun g hg q => ?_⟩
      rw [h8 g hg q, s4 10 (by omega)]
      by_cases e : i + 1 ≤ q ∧ q < cnt
      · rw [if_pos e, if_pos (by omega)]
      · rw [if_neg e, rg g hg q]
        by_cases e2 : q = i
        · rw [if_pos e2, if_pos (by omega), e2]
        · rw [if_neg e2, if_neg (by omega)]
theorem take1_lx {n cnt : Nat} (hn : 8 < n) (h6 : cnt ≤ 6) : ∀ f k i (σ : zMem), i + k = 3 → k < f → σ 0 14 = nI cnt → ∃ σ', zlp (LX10_takeProvince_2 n) f (σ, nI i) = some (0, σ') ∧ (∀ o, o ≠ 0 → (o < 4 ∨ 9 ≤ o) → σ' o = σ o) ∧ (∀ j, j ≠ 5 → j ≠ 6 → j ≠ 7 → j ≠ 28 → σ' 0 j = σ 0 j) ∧ σ' 0 5 = nI cnt ∧ σ' 0 6 = 0 ∧ σ' 0 7 = 0 ∧ σ' 0 28 = 0 ∧ (∀ g, g < 4 → ∀ q, σ' (5 + g) q = if q < cnt then σ 10 (4 * q + g) else σ (5 + g) q) ∧ (∀ m, i ≤ m → m < 3 → σ' 4 m = σ 9 m) ∧ ∀ m, m < i → σ' 4 m = σ 4 m := by
  intro f
  induction f with
  | zero => intro k i σ _ h; omega
  | succ f ih =>
    intro k i σ hk hf hc
    rw [zlp_n]
    show ∃ σ', LBX10_takeProvince_2 n _ σ (nI i) = _ ∧ _
    unfold LBX10_takeProvince_2
    cases k with
    | zero =>
      rw [zif_pos (show (3 : Int32) ≤ nI i from nI_le (a := 3) (by omega) (by omega)), zlet_s, hc]
      obtain ⟨σ', h1, h2, h3, h4, h5, h7, h8⟩ := take2_lx (n := n) h6 n cnt 0 (zst σ 0 5 (nI cnt)) (by omega) (by omega) zst_ss
      refine ⟨σ', h1, fun o a b => by rw [h2 o a (by omega), zst_n a], fun j a b d e => by rw [h3 j b d e, zst_sn a], by rw [h3 5 (by decide) (by decide) (by decide), zst_ss], h4, h5, h7, fun g hg q => ?_, fun m q1 q2 => by omega, fun m hm => by rw [h2 4 (by decide) (by omega), zst_n (by decide)]⟩
      rw [h8 g hg q, zst_n (by decide), zst_n (by omega)]
      by_cases e : q < cnt
      · rw [if_pos ⟨by omega, e⟩, if_pos e]
      · rw [if_neg (fun z => e z.2), if_neg e]
    | succ k =>
      rw [zif_neg (show ¬ (3 : Int32) ≤ nI i from nI_ge (b := 3) (by omega) (by omega)), zgd_in (show i < 3 by omega) (by decide), zgd_in (show i < 3 by omega) (by decide), zlet_s, zcl (by omega), nI_1]
      obtain ⟨σ', h1, h2, h3, h4, h5, h7, h8, h9, h10, h11⟩ := ih k (i + 1) (zst σ 4 i (σ 9 i)) (by omega) (by omega) (by rw [zst_n (by decide)]; exact hc)
      refine ⟨σ', h1, fun o a b => by rw [h2 o a b, zst_n (by omega)], fun j a b d e => by rw [h3 j a b d e, zst_n (by decide)], h4, h5, h7, h8, fun g hg q => by rw [h9 g hg q, zst_n (by decide), zst_n (by omega)], fun m q1 q2 => ?_, fun m hm => by rw [h11 m (by omega), zst_sn (by omega)]⟩
      by_cases e : m = i
      · rw [e, h11 i (by omega), zst_ss]
      · rw [h10 m (by omega) q2, zst_n (by decide)]
theorem take_x {n len : Nat} {cd : Nat → Int32} {σ0 σ : zMem} {u : Nat → Nat → Nat} {c : Nat} {so sn : Nat → Nat} {ce : Nat → Nat → Int32} {rc : Nat} {rd : Nat → Nat → Nat} {qs br ft tr : Int32} (hn : 8 < n) (hM : MB σ0 u c so sn ce rc rd qs br ft tr) (hK : mK σ0 σ) (hff : isFF cd len none) (h14 : σ 0 14 = nI ((len - 4) / 5)) (h9 : ∀ m, m < 3 → σ 9 m = nI (dgv (cd (1 + m)))) (h10 : ∀ p, p < (len - 4) / 5 → σ 10 (4 * p) = nI (kdv (cd (4 + 5 * p + 1))) ∧ ∀ g, 0 < g → g < 4 → σ 10 (4 * p + g) = nI (dgv (cd (4 + 5 * p + 1 + g)))) : ∃ σ', FX10_takeProvince n σ = some (0, σ') ∧ MB σ' (uP u cd ((len - 4) / 5)) ((len - 4) / 5) so sn ce 0 rd 0 0 ft tr := by
  have h34 := ok_34 hff.1
  obtain ⟨b1, b2, b3, b4⟩ := MB_K hM hK
  obtain ⟨σ', t1, t2, t3, t4, t5, t6, t7, t8, t9, t10⟩ := take1_lx (n := n) hn (show (len - 4) / 5 ≤ 6 by omega) n 3 0 σ (by omega) (by omega) h14
  refine ⟨σ', t1, ⟨t4, t5, t6, ?_, ?_⟩, ⟨fun p hp g hg => ?_, fun m hm => ?_⟩, mS_k b3 (fun o q1 q2 => t2 o (by omega) (by omega)), t7, fun q hq => by omega⟩
  · rw [t3 0 (by decide) (by decide) (by decide) (by decide)]; exact b1.2.2.2.1
  · rw [t3 1 (by decide) (by decide) (by decide) (by decide)]; exact b1.2.2.2.2
  · rw [t8 g hg p]
    unfold uP
    rw [if_neg (show ¬ g = 4 by omega)]
    by_cases e : p < (len - 4) / 5
    · rw [if_pos e, if_pos e]
      by_cases e0 : g = 0
      · rw [if_pos e0, e0]; exact (h10 p e).1
      · rw [if_neg e0]; exact (h10 p e).2 g (by omega) hg
    · rw [if_neg e, if_neg e]; exact b2.1 p hp g hg
  · rw [t9 m (by omega) hm, h9 m hm]
    rfl
theorem province_e (n t : Nat) (hn : 6000 < n) (p1 p2 p3 p4 : Int32) : zE t (fun σ => FX9_province n σ p1 p2 p3 p4) (fun σ => FX10_province n σ p1 p2 p3 p4) := by
  intro σx σm h
  obtain ⟨u, c, so, sn, ce, rc, rd, qs, br, ft, tr, hX, hM, hI⟩ := id h
  have X1 := XB_ft hX 0
  have M1 := MB_ft hM 0
  have hR := zR_of X1 M1 hI
  rcases z_cs p1 4 (by decide) with ⟨k, hk, rfl⟩ | ho
  · rcases z_cs p2 3 (by decide) with ⟨a, ha, rfl⟩ | ho2
    · obtain ⟨x1, x2, x3, x4⟩ := X1.2.2.1 k hk
      obtain ⟨m1, m2, m3⟩ := M1.2.2.1 k hk
      have hs := hI.2.2.1 k hk
      have ck : (nI k).toNatClampNeg = k := zcl (by omega)
      have pX : ∀ {R : Option (Int32 × zMem)}, zbd (FX6_faultAs n (2 + k) (zst σx 0 10 0) (nI a)) (fun r31 σ30 => zif (r31 = 0) (zif (0 ≤ p4) (BX9_province_53 n σ30 (nI k) (nI a) p3 p4 (2 + k) r31) (BX9_province_53 n σ30 (nI k) (nI a) p3 p4 (2 + k) 4)) (BX9_province_53 n σ30 (nI k) (nI a) p3 p4 (2 + k) r31)) = R → FX9_province n σx (nI k) (nI a) p3 p4 = R := by
        intro R hr
        unfold FX9_province
        rw [zlet_s, isSheet_in hk, zbd_s, zif_neg (by decide), isLane_in ha, zbd_s, zif_neg (by decide), zgd_in hk (by decide), ck]
        exact hr
      have pM : ∀ {R : Option (Int32 × zMem)}, zbd (FX10_against n (zst σm 0 0 0) (nI k) (nI a) p3 p4) (fun r11 σ10 => zif (r11 = 0) (zlet (zst σ10 0 13 (60 * nI k + p3)) (fun σ14 => zbd (FX10_readProvince n σ14 (60 * nI k + p3 + p4)) (fun r16 σ15 => zif (r16 = 0) (some (-100 - (σ15 0 13 - (60 * nI k + p3)), σ15)) (zbd (FX10_takeProvince n σ15) (fun _ σ19 => some (σ19 0 5, σ19)))))) (zbd (FX10_fails n σ10 r11) (fun r23 σ22 => some (r23, σ22)))) = R → FX10_province n σm (nI k) (nI a) p3 p4 = R := by
        intro R hr
        unfold FX10_province
        rw [zlet_s, misSheet_in hk, zbd_s, zif_neg (by decide), isSort_in ha, zbd_s, zif_neg (by decide)]
        exact hr
      have fl : ∀ v : Int32, zR (t + 1) (zst (zst σx 0 10 0) 0 10 v) (zst (zst σm 0 0 0) 0 0 v) := fun v => zR_of (XB_ft X1 v) (MB_ft M1 v) hI
      by_cases e4 : p4 < 0
      · have e4' : ¬ (0 : Int32) ≤ p4 := Int32.not_le.mpr e4
        by_cases e : so k = 0
        · refine ⟨-10 - 1, _, _, pX ?_, pM ?_, fl 1⟩
          · unfold FX6_faultAs BX9_province_53 BX9_province_72
            rw [x1, if_pos e, zif_pos rfl, zbd_s, zif_neg (by decide), zif_neg (by decide), zif_neg (by decide), failed_x, zbd_s]
          · unfold FX10_against BX10_against_23
            rw [zgd_in hk (by decide), ck, m1, if_pos e, zif_pos rfl, zgd_n hk (by decide), zif_pos rfl, zbd_s, zif_neg (by decide), fails_x, zbd_s]
        · rw [if_neg e] at x1 m1
          have ne := so_ne hs.1 e
          by_cases e2 : so k - 1 = a
          · refine ⟨-10 - 4, _, _, pX ?_, pM ?_, fl 4⟩
            · unfold FX6_faultAs BX9_province_53 BX9_province_72
              rw [x1, zif_neg (by decide), x2 e, zif_pos (by rw [e2]), zbd_s, zif_pos rfl, zif_neg e4', zif_neg (by decide), zif_neg (by decide), failed_x, zbd_s]
            · unfold FX10_against BX10_against_23
              rw [zgd_in hk (by decide), ck, m1, zif_neg ne, zgd_n hk (by decide), zif_pos (by rw [e2]), zgd_n hk (by decide), zif_neg ne, zif_neg e4', zbd_s, zif_neg (by decide), fails_x, zbd_s]
          · refine ⟨-10 - 2, _, _, pX ?_, pM ?_, fl 2⟩
            · unfold FX6_faultAs BX9_province_53 BX9_province_72
              rw [x1, zif_neg (by decide), x2 e, zif_neg (nI_ne (by omega) (by omega) e2), zbd_s, zif_neg (by decide), zif_neg (by decide), zif_neg (by decide), failed_x, zbd_s]
            · unfold FX10_against
              rw [zgd_in hk (by decide), ck, m1, zif_neg ne, zgd_n hk (by decide), zif_neg (nI_ne (by omega) (by omega) e2), zbd_s, zif_neg (by decide), fails_x, zbd_s]
      · have e4' : (0 : Int32) ≤ p4 := Int32.not_lt.mp e4
        have fM := against_x (n := n) (i := p3) (m := p4) M1.2.2.1 hk ha hs.1 e4
        by_cases ef : rfN so sn k a p3 p4 = 0
        · have ef' := ef
          unfold rfN at ef'
          have e : ¬ so k = 0 := fun z => by rw [if_pos z] at ef'; exact absurd ef' (by decide)
          rw [if_neg e] at ef'
          have e2 : so k - 1 = a := by
            by_cases z : so k - 1 = a
            · exact z
            · rw [if_neg z] at ef'; exact absurd ef' (by decide)
          rw [if_pos e2] at ef'
          have A : inR (sn k) p3 p4 := by
            by_cases z : inR (sn k) p3 p4
            · exact z
            · rw [if_neg z] at ef'; exact absurd ef' (by decide)
          obtain ⟨b, len, rfl, rfl, hbl⟩ := holds_n hs.2 A
          rw [if_neg e] at x1
          have hcX : ∀ q, q < len → zst σx 0 10 0 (2 + k + 4) (b + q) = ce k (b + q) := fun q hq => x4 _ (by omega)
          have hcM : ∀ q, q < len → zst σm 0 0 0 3 (60 * k + b + q) = ce k (b + q) := fun q hq => by rw [Nat.add_assoc]; exact m3 _ (by omega)
          obtain ⟨F, f1, f2⟩ := firstFault_lx (n := n) (k := k) (cd := fun q => ce k (b + q)) (show b + len ≤ 60 by omega) hcX n len 0 (by omega) (by omega) (fun q hq => by omega)
          have gX : ∀ {R : Option (Int32 × zMem)}, zif (enc F = -9) (zbd (FX7_read n (2 + k) 10 (zst σx 0 10 0) (nI b) (nI len)) (fun _ σ6 => zlet (zst σ6 0 8 0) (fun σ9 => zlet (zst σ9 0 9 0) (fun σ10 => zlet (zst σ10 36 3 0) (fun σ11 => some (σ11 10 2, σ11)))))) (some (-100 - enc F, zst σx 0 10 0)) = R → FX9_province n σx (nI k) (nI a) (nI b) (nI len) = R := by
            intro R hr
            refine pX ?_
            unfold FX6_faultAs BX9_province_53 BX9_province_72 FX7_firstFault
            rw [x1, zif_neg (by decide), x2 e, zif_pos (by rw [e2]), zbd_s, zif_pos rfl, zif_pos e4', zif_pos rfl, holds_t x3 A, zbd_s, zif_neg (by decide), zif_pos rfl, show zlp (LX7_firstFault_2 n (2 + k)) n (zst σx 0 10 0, nI b, nI len, 0) = _ from f1, zbd_s]
            exact hr
          have rM := readProvince_x (n := n) (cd := fun q => ce k (b + q)) (σ := zst (zst σm 0 0 0) 0 13 (nI (60 * k + b))) (by omega) (show 60 * k + b + len ≤ 240 by omega) hcM (mK.rf.st (by omega)) zst_ss
          have gM : ∀ {R : Option (Int32 × zMem)}, zbd (FX10_readProvince n (zst (zst σm 0 0 0) 0 13 (nI (60 * k + b))) (nI (60 * k + b + len))) (fun r16 σ15 => zif (r16 = 0) (some (-100 - (σ15 0 13 - nI (60 * k + b)), σ15)) (zbd (FX10_takeProvince n σ15) (fun _ σ19 => some (σ19 0 5, σ19)))) = R → FX10_province n σm (nI k) (nI a) (nI b) (nI len) = R := by
            intro R hr
            refine pM ?_
            rw [fM, ef, zbd_s, zif_pos rfl, zlet_s, z60, nI_add]
            exact hr
          rcases rM with ⟨σ', g1, g2, g3, g4, g5, g6⟩ | ⟨σ', pl, g1, g2, g3, g4⟩
          · have eF := isFF_u f2 g3
            subst eF
            have h34 := ok_34 g3.1
            obtain ⟨σ1, r1, r2, r3, r4⟩ := read1_lx (n := n) (u := u) (cd := fun q => ce k (b + q)) (by omega) hk (show b + len ≤ 60 by omega) hcX g3 n 3 0 (zst σx 0 10 0) (by omega) (by omega) (fun o _ => rfl) (fun p hp g hg => X1.2.1.1 p hp g hg) (fun m hm => by omega)
            obtain ⟨σ2, t1, t2⟩ := take_x (n := n) (by omega) M1 g2 g3 g4 g5 g6
            have X2 : XB (zst (zst (zst σ1 0 8 0) 0 9 0) 36 3 0) (uP u (fun q => ce k (b + q)) ((len - 4) / 5)) ((len - 4) / 5) so sn ce 0 rd 0 0 0 tr := by
              have e1 : ∀ o, o ≠ 0 → o ≠ 36 → zst (zst (zst σ1 0 8 0) 0 9 0) 36 3 0 o = σ1 o := fun o h1 h2 => by rw [zst_n h2, zst_n h1, zst_n h1]
              refine ⟨⟨?_, ?_, ?_, ?_, ?_⟩, uV_k r4 (fun o q1 q2 => e1 o (by omega) (by omega)), xS_k X1.2.2.1 (fun o q1 q2 => by rw [e1 o (by omega) (by omega)]; exact r2 o (by omega)), ?_, fun q hq => by omega⟩
              · rw [e1 10 (by decide) (by decide)]; exact r3
              · rw [zst_n (by decide), zst_sn (by decide), zst_ss]
              · rw [zst_n (by decide), zst_ss]
              · rw [zst_n (by decide), zst_sn (by decide), zst_sn (by decide), r2 0 (by omega)]; exact zst_ss
              · rw [e1 40 (by decide) (by decide), r2 40 (by omega)]; exact X1.1.2.2.2.2
              · rw [zst_ss]; rfl
            have I2 : IB t (uP u (fun q => ce k (b + q)) ((len - 4) / 5)) ((len - 4) / 5) so sn 0 rd := ⟨uP_B (by omega) hI.1 g3, Or.inr (by have := g3.2.1; omega), hI.2.2.1, by omega, fun q hq => by omega⟩
            refine ⟨nI ((len - 4) / 5), _, _, gX ?_, gM ?_, zR_of X2 t2 I2⟩
            · unfold FX7_read
              rw [show enc none = -9 from rfl, zif_pos rfl, show zlp (LX7_read_9 n (2 + k) 10) n (zst σx 0 10 0, nI b, nI len, 0) = _ from r1, zbd_s, zlet_s, zlet_s, zlet_s, X2.1.1]
            · rw [g1, zbd_s, zif_neg (by decide), t1, zbd_s, t2.1.1]
          · have eF := isFF_u f2 g4
            subst eF
            have hple : pl ≤ len := by
              rcases g4.2 with q | q
              · omega
              · omega
            refine ⟨-100 - nI pl, _, σ', gX ?_, gM ?_, zR_K (zR_of' X1 M1 hI) xK.rf g2⟩
            · rw [show enc (some pl) = nI pl from rfl, zif_neg (nI_ne9 (by omega))]
            · rw [g1, zbd_s, zif_pos rfl, g3, pk_sub (by omega), show 60 * k + b + pl - (60 * k + b) = pl by omega]
        · refine ⟨-10 - rfN so sn k a p3 p4, _, _, pX ?_, pM ?_, fl (rfN so sn k a p3 p4)⟩
          · unfold FX6_faultAs BX9_province_53 BX9_province_72
            unfold rfN at ef ⊢
            by_cases e : so k = 0
            · rw [x1, if_pos e, zif_pos rfl, zbd_s, zif_neg (by decide), zif_neg (by decide), zif_neg (by decide), failed_x, zbd_s, if_pos e]
            · rw [if_neg e] at x1 ef ⊢
              rw [x1, zif_neg (by decide), x2 e]
              by_cases e2 : so k - 1 = a
              · rw [if_pos e2] at ef ⊢
                have A : ¬ inR (sn k) p3 p4 := fun z => by rw [if_pos z] at ef; exact ef rfl
                rw [if_neg A, zif_pos (by rw [e2]), zbd_s, zif_pos rfl, zif_pos e4', zif_pos rfl, holds_f x3 A, zbd_s, zif_pos rfl, zif_neg (by decide), failed_x, zbd_s]
              · rw [if_neg e2, zif_neg (nI_ne (by omega) (by omega) e2), zbd_s, zif_neg (by decide), zif_neg (by decide), zif_neg (by decide), failed_x, zbd_s]
          · rw [fM, zbd_s, zif_neg ef, fails_x, zbd_s]
    · refine ⟨-2, zst σx 0 10 0, zst σm 0 0 0, ?_, ?_, hR⟩
      · show FX9_province n σx _ _ _ _ = _
        unfold FX9_province
        rw [zlet_s, isSheet_in hk, zbd_s, zif_neg (by decide), isLane_out ho2, zbd_s, zif_pos rfl]
      · show FX10_province n σm _ _ _ _ = _
        unfold FX10_province
        rw [zlet_s, misSheet_in hk, zbd_s, zif_neg (by decide), isSort_out ho2, zbd_s, zif_pos rfl]
  · refine ⟨-1, zst σx 0 10 0, zst σm 0 0 0, ?_, ?_, hR⟩
    · show FX9_province n σx _ _ _ _ = _
      unfold FX9_province
      rw [zlet_s, isSheet_out ho, zbd_s, zif_pos rfl]
    · show FX10_province n σm _ _ _ _ = _
      unfold FX10_province
      rw [zlet_s, misSheet_out ho, zbd_s, zif_pos rfl]
