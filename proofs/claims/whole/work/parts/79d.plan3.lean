/-! ===== plan, both sides ===== -/
theorem planX {n c k b L : Nat} {ce : Nat → Int32} {σ : zMem} {l2 l5 l6 : Int32} (h0 : 0 < c) (h6 : c ≤ 6) (hk : k < 4) (hb : b + L ≤ 60) (hL : L < 8) (hc : σ 10 2 = nI c) (hce : ∀ i, i < 60 → σ (2 + k + 4) i = ce i) : ∀ f r a, a + r = L → r < f → zlp (LX9_plan_92 n) f (σ, nI k, l2, nI b, nI L, l5, l6, nI a) = if ∀ p, p < L → a ≤ p → ¬ (ce (b + p) < 0 ∨ nI 3 ≤ ce (b + p)) then zbd (FX4_becomeLike n 19 10 σ) (fun _ σ2 => zbd (FX3_make n 29 (2 + k) 19 σ2 (nI b) (nI L)) (fun _ σ6 => zbd (FX3_answer n 29 σ6 l5) (fun r10 σ9 => some (r10, σ9)))) else some (-1, σ) := by
  intro f
  induction f with
  | zero => intro r a _ h; omega
  | succ f ih =>
    intro r a hr hf
    rw [zlp_n]
    show LBX9_plan_92 n _ σ (nI k) l2 (nI b) (nI L) l5 l6 (nI a) = _
    unfold LBX9_plan_92
    cases r with
    | zero =>
      rw [zif_pos (nI_le (by omega) (by omega)), if_pos (fun p h1 h2 => by omega)]
      simp only [zcl (show k < 2 ^ 31 by omega), zgd_n hk (show 4 < 2 ^ 31 by decide)]
    | succ r =>
      have key := ih r (a + 1) (by omega) (by omega)
      rw [zif_neg (nI_ge (by omega) (by omega)), nI_add, zgd_in hk (by decide), zgd_in (show b + a < 60 by omega) (by decide), zcl (show k < 2 ^ 31 by omega), zcl (by omega), hce (b + a) (by omega), nI_1]
      rcases z_cs (ce (b + a)) 3 (by decide) with ⟨j, hj, e⟩ | e
      · rw [e, hasMatter_in hc hj h0 (by omega), zbd_s, zif_neg (by decide), key]
        by_cases q : ∀ p, p < L → a + 1 ≤ p → ¬ (ce (b + p) < 0 ∨ nI 3 ≤ ce (b + p))
        · rw [if_pos q, if_pos (fun p h1 h2 => by
            by_cases ep : p = a
            · rw [ep, e]
              exact fun z => z.elim (nI_pos (by omega)) (nI_ge hj (by decide))
            · exact q p h1 (by omega))]
        · rw [if_neg q, if_neg (fun z => q (fun p h1 h2 => z p h1 (by omega)))]
      · rw [hasMatter_out hc (Or.inr e), zbd_s, zif_pos rfl, if_neg (fun z => z a (by omega) (Nat.le_refl a) e)]
theorem planM {n c k b L : Nat} {ce : Nat → Int32} {σ : zMem} {l2 l3 l5 l6 : Int32} (h0 : 0 < c) (h6 : c ≤ 6) (hk : k < 4) (hb : b + L ≤ 60) (hL : L < 8) (hc : σ 0 5 = nI c) (hce : ∀ i, i < 60 → σ 3 (60 * k + i) = ce i) : ∀ f r a, a + r = L → r < f → zlp (LX10_plan_90 n) f (σ, nI k, l2, l3, nI L, l5, l6, nI (60 * k + b), nI a) = if ∀ p, p < L → a ≤ p → ¬ (ce (b + p) < 0 ∨ nI 3 ≤ ce (b + p)) then zbd (FX10_planOf n σ (nI (60 * k + b)) (nI L) l5) (fun r3 σ2 => some (r3, σ2)) else some (-1, σ) := by
  intro f
  induction f with
  | zero => intro r a _ h; omega
  | succ f ih =>
    intro r a hr hf
    rw [zlp_n]
    show LBX10_plan_90 n _ σ (nI k) l2 l3 (nI L) l5 l6 (nI (60 * k + b)) (nI a) = _
    unfold LBX10_plan_90
    cases r with
    | zero => rw [zif_pos (nI_le (by omega) (by omega)), if_pos (fun p h1 h2 => by omega)]
    | succ r =>
      have key := ih r (a + 1) (by omega) (by omega)
      rw [zif_neg (nI_ge (by omega) (by omega)), nI_add, zgd_in (show 60 * k + b + a < 240 by omega) (by decide), zcl (by omega), Nat.add_assoc, hce (b + a) (by omega), nI_1]
      rcases z_cs (ce (b + a)) 3 (by decide) with ⟨j, hj, e⟩ | e
      · rw [e, isMatter_in hc hj h0 (by omega), zbd_s, zif_neg (by decide), key]
        by_cases q : ∀ p, p < L → a + 1 ≤ p → ¬ (ce (b + p) < 0 ∨ nI 3 ≤ ce (b + p))
        · rw [if_pos q, if_pos (fun p h1 h2 => by
            by_cases ep : p = a
            · rw [ep, e]
              exact fun z => z.elim (nI_pos (by omega)) (nI_ge hj (by decide))
            · exact q p h1 (by omega))]
        · rw [if_neg q, if_neg (fun z => q (fun p h1 h2 => z p h1 (by omega)))]
      · rw [isMatter_out hc (Or.inr e), zbd_s, zif_pos rfl, if_neg (fun z => z a (by omega) (Nat.le_refl a) e)]
theorem plan_e {t n : Nat} {p1 p2 p3 p4 p5 : Int32} (hn : 6000 < n) (ht : t < 600) : zE t (fun σ => FX9_plan n σ p1 p2 p3 p4 p5) (fun σ => FX10_plan n σ p1 p2 p3 p4 p5) := by
  intro σx σm h
  obtain ⟨u, c, so, sn, ce, rc, rd, qs, br, ft, tr, hX, hM, hI⟩ := id h
  have X1 := XB_ft hX 0
  have M1 := MB_ft hM 0
  have hR := zR_of X1 M1 hI
  have hR0 := zR_of' X1 M1 hI
  show ∃ r σx' σm', FX9_plan n σx p1 p2 p3 p4 p5 = _ ∧ FX10_plan n σm p1 p2 p3 p4 p5 = _ ∧ _
  unfold FX9_plan FX10_plan
  rw [zlet_s, zlet_s]
  generalize zst σx 0 10 0 = τx at *
  generalize zst σm 0 0 0 = τm at *
  rcases z_cs p1 4 (by decide) with ⟨k, hk, rfl⟩ | ho
  · rw [isSheet_in hk, zbd_s, zif_neg (show ¬ (1 : Int32) = 0 by decide), misSheet_in hk, zbd_s, zif_neg (show ¬ (1 : Int32) = 0 by decide)]
    rcases z_cs p2 3 (by decide) with ⟨a, ha, rfl⟩ | ho2
    · rw [isLane_in ha, zbd_s, zif_neg (show ¬ (1 : Int32) = 0 by decide), isSort_in ha, zbd_s, zif_neg (show ¬ (1 : Int32) = 0 by decide)]
      rcases z_cs p4 8 (by decide) with ⟨L, hL, rfl⟩ | ho4
      · rw [zif_neg (nI_pos (by omega)), zif_neg (show ¬ (7 : Int32) < nI L from nI_nlt (b := L) (a := 7) (by omega) (by decide)), show FX10_within n τm (nI L) 0 7 = some (1, τm) from within_in (a := 0) (b := 7) (by omega) (by omega) (by decide), zbd_s, zif_neg (show ¬ (1 : Int32) = 0 by decide)]
        have plan_g : (p5 = -1 ∨ ∃ j, j < 7 ∧ p5 = nI j) → ∃ r σx' σm', zif (p5 < -1) (some ((-2 : Int32), τx)) (zif (p5 < 7) (zgd (¬ (nI k < 0 ∨ 4 ≤ (nI k).toNatClampNeg)) (zbd (FX9_rowFault n (2 + (nI k).toNatClampNeg) τx (nI a) p3 (nI L)) (fun r33 σ32 => zif (r33 = 0) (zif (σ32 10 2 = 0) (some (-3, σ32)) (zlp (LX9_plan_92 n) n (σ32, nI k, nI a, p3, nI L, p5, r33, 0))) (zbd (FX9_failed n σ32 r33) (fun r38 σ37 => some (r38, σ37)))))) (some (-2, τx))) = some (r, σx') ∧ zbd (FX10_within n τm p5 (-1) 6) (fun r24 σ23 => zif (r24 = 0) (some (-2, σ23)) (zbd (FX10_against n σ23 (nI k) (nI a) p3 (nI L)) (fun r28 σ27 => zif (r28 = 0) (zif (σ27 0 5 = 0) (some (-3, σ27)) (zlp (LX10_plan_90 n) n (σ27, nI k, nI a, p3, nI L, p5, r28, 60 * nI k + p3, 0))) (zbd (FX10_fails n σ27 r28) (fun r33 σ32 => some (r33, σ32)))))) = some (r, σm') ∧ zR (t + 1) σx' σm' := by
          intro q
          have n1 : ¬ p5 < -1 := by
            rcases q with q | ⟨j, hj, q⟩
            · rw [q]; decide
            · rw [q]; exact fun z => absurd (Int32.lt_of_le_of_lt (nI_pos' (by omega)) z) (by decide)
          have n2 : p5 < 7 := by
            rcases q with q | ⟨j, hj, q⟩
            · rw [q]; decide
            · rw [q]; exact nI_lt (b := 7) hj (by decide)
          have n3 : ¬ 6 < p5 := by
            rcases q with q | ⟨j, hj, q⟩
            · rw [q]; decide
            · rw [q]; exact nI_nlt (a := 6) (by omega) (by decide)
          have w : FX10_within n τm p5 (-1) 6 = some (1, τm) := by
            unfold FX10_within
            rw [zif_neg n1, zif_neg n3]
          have hs := hI.2.2.1 k hk
          have fX := rowFault_x (n := n) (i := p3) (m := nI L) X1.2.2.1 hk ha hs.1
          have fM := against_x (n := n) (i := p3) (m := nI L) M1.2.2.1 hk ha hs.1 (nI_pos (by omega))
          rw [zif_neg n1, zif_pos n2, zgd_in hk (by decide), zcl (by omega), w, zbd_s, zif_neg (show ¬ (1 : Int32) = 0 by decide), fX, zbd_s, fM, zbd_s]
          by_cases ef : rfN so sn k a p3 (nI L) = 0
          · rw [zif_pos ef, zif_pos ef, X1.1.1, M1.1.1]
            by_cases ec : c = 0
            · rw [zif_pos (by rw [ec]; rfl), zif_pos (by rw [ec]; rfl)]
              exact ⟨_, _, _, rfl, rfl, hR⟩
            have h0 : 0 < c := by omega
            have h6 : c ≤ 6 := by have := hI.2.1; omega
            obtain ⟨b, N2, rfl, eN2, hbN⟩ := rfN_0 hs.2 ef
            have eN : L = N2 := (nI_eq (by omega) (by omega)).mp eN2
            subst eN
            have hbN : b + L ≤ 60 := by omega
            have hceX : ∀ i, i < 60 → τx (2 + k + 4) i = ce k i := (X1.2.2.1 k hk).2.2.2
            have hceM : ∀ i, i < 60 → τm 3 (60 * k + i) = ce k i := (M1.2.2.1 k hk).2.2
            rw [zif_neg (nI_ne0 h0 (by omega)), zif_neg (nI_ne0 h0 (by omega)), z60, show zlp (LX9_plan_92 n) n (τx, nI k, nI a, nI b, nI L, p5, rfN so sn k a (nI b) (nI L), 0) = _ from planX h0 h6 hk hbN hL X1.1.1 hceX n L 0 (by omega) (by omega), show zlp (LX10_plan_90 n) n (τm, nI k, nI a, nI b, nI L, p5, rfN so sn k a (nI b) (nI L), nI (60 * k + b), 0) = _ from planM h0 h6 hk hbN hL M1.1.1 hceM n L 0 (by omega) (by omega)]
            by_cases eg : ∀ p, p < L → 0 ≤ p → ¬ (ce k (b + p) < 0 ∨ nI 3 ≤ ce k (b + p))
            · rw [if_pos eg, if_pos eg]
              have hcl : ∀ p, p < L → ce k (b + p) = nI (mtN (fun p => ce k (b + p)) p) := by
                intro p hp
                rcases z_cs (ce k (b + p)) 3 (by decide) with ⟨j, hj, e⟩ | e
                · unfold mtN
                  show ce k (b + p) = nI ((ce k (b + p)).toNatClampNeg % 3)
                  rw [e, zcl (by omega), Nat.mod_eq_of_lt hj]
                · exact absurd e (eg p hp (Nat.zero_le p))
              generalize (fun p => ce k (b + p)) = cl at hcl
              obtain ⟨σ1, c1, c2, c3, c4, c5⟩ := become_x (n := n) (by omega) X1.2.1
              obtain ⟨σ2, d1, d2, d3, d4, d5⟩ := make_x (n := n) (cl := cl) (by omega) h0 h6 hk hbN hL hceX hcl hI.1 (by omega) c2 (by rw [c4]; exact X1.1.1) c3
              obtain ⟨σ3, e1, e2, e3⟩ := findAsked_x (n := n) (L := L) (by omega) h0 h6 hL M1.1.1 M1.2.1 hI.1 (by omega)
              have fl := fc_le L hL
              obtain ⟨σ4, f1, f2⟩ := planOf_l (n := n) (cl := cl) (ce := cl) (p3 := p5) (by omega) h0 h6 hL hk hbN M1.2.1 hI.1 (fun p hp => by rw [hceM (b + p) (by omega)]; exact hcl p hp) n (fc L) 0 σ3 (-9) 0 (by omega) (by omega) e2 e3 (Or.inl ⟨rfl, rfl⟩)
              have gl : gI (pW u c cl) L L 0 < fc L := (plan_main hL L 0 (Nat.pow_pos (by decide)) (by rw [show pop 0 = 0 from by decide]; omega)).1
              unfold FX10_planOf FX3_answer
              rw [c1, zbd_s, d1, zbd_s, e1, zbd_s, show zlp (LX10_planOf_15 n) n (σ3, nI (60 * k + b), nI L, p5, -9, 0, 0) = _ from f1]
              unfold plE
              rcases q with q | ⟨j, hj, q⟩
              · rw [zif_pos q, zif_pos q, zbd_s, zbd_s]
                refine ⟨nI (bv (pW u c cl) L L 0), σ2, σ4, ?_, rfl, zR_K hR0 d2 f2⟩
                rw [show σ2 (29 + 4) (Int32.toNatClampNeg 0) = _ from d4]
              · have nx : ¬ p5 = -1 := by rw [q]; exact fun z => absurd (nI_pos' (n := j) (by omega)) (by rw [z]; decide)
                obtain ⟨σ5, g1, g2, g3⟩ := findRow_x (σ := σ4) (show 20 < n by omega) hL gl
                have K5 : mK τm σ5 := f2.tr ⟨fun j _ => by rw [g2 0 (by decide)], fun o ho => g2 o (by omega)⟩
                rw [zif_neg nx, zif_neg nx, d3, g1, zbd_s, q]
                by_cases ej : L ≤ j
                · rw [zif_pos (nI_le ej (by omega)), zif_pos (nI_le ej (by omega)), zbd_s, zbd_s]
                  exact ⟨_, _, _, rfl, rfl, zR_K hR0 d2 K5⟩
                · rw [zif_neg (nI_ge (by omega) (by omega)), zif_neg (nI_ge (by omega) (by omega)), zgd_in hj (by decide), zgd_in hj (by decide), zcl (by omega), zbd_s, zbd_s, show (29 + 3 : Nat) = 32 from rfl, d5 j (by omega), g3 j (by omega), (g_dM (W := pW u c cl) hL j (by omega)).2.2.2 (by omega)]
                  exact ⟨_, _, _, rfl, rfl, zR_K hR0 d2 K5⟩
            · rw [if_neg eg, if_neg eg]
              exact ⟨_, _, _, rfl, rfl, hR⟩
          · rw [zif_neg ef, zif_neg ef, failed_x, zbd_s, fails_x, zbd_s]
            exact ⟨_, _, _, rfl, rfl, zR_of (XB_ft X1 (rfN so sn k a p3 (nI L))) (MB_ft M1 (rfN so sn k a p3 (nI L))) hI⟩
        have cs : p5 < -1 ∨ p5 = -1 ∨ (∃ j, j < 7 ∧ p5 = nI j) ∨ 7 ≤ p5 := by
          rcases z_cs p5 7 (by decide) with q | q | q
          · exact Or.inr (Or.inr (Or.inl q))
          · by_cases e : p5 = -1
            · exact Or.inr (Or.inl e)
            · refine Or.inl (Int32.lt_iff_toInt_lt.mpr ?_)
              have q1 := Int32.lt_iff_toInt_lt.mp q
              have q2 : p5.toInt ≠ -1 := fun z => e (Int32.toInt_inj.mp z)
              have q3 : (0 : Int32).toInt = 0 := rfl
              show p5.toInt < -1
              omega
          · exact Or.inr (Or.inr (Or.inr q))
        rcases cs with q | q | q | q
        · rw [zif_pos q, within_out (Or.inl q), zbd_s, zif_pos rfl]
          exact ⟨_, _, _, rfl, rfl, hR⟩
        · exact plan_g (Or.inl q)
        · exact plan_g (Or.inr q)
        · rw [zif_neg (fun z => absurd (Int32.lt_of_le_of_lt q z) (by decide)), zif_neg (Int32.not_lt.mpr q), within_out (Or.inr (Int32.lt_of_lt_of_le (by decide) q)), zbd_s, zif_pos rfl]
          exact ⟨_, _, _, rfl, rfl, hR⟩
      · rw [within_out (show p4 < 0 ∨ 7 < p4 from z_cs' (b := 7) (by decide) ho4), zbd_s, zif_pos rfl]
        refine ⟨-2, τx, τm, ?_, rfl, hR⟩
        by_cases q : p4 < 0
        · rw [zif_pos q]
        · rw [zif_neg q, zif_pos (show (7 : Int32) < p4 from Int32.lt_of_lt_of_le (nI_lt (a := 7) (b := 8) (by decide) (by decide)) (ho4.resolve_left q))]
    · rw [isLane_out ho2, zbd_s, zif_pos rfl, isSort_out ho2, zbd_s, zif_pos rfl]
      exact ⟨_, _, _, rfl, rfl, hR⟩
  · rw [isSheet_out ho, zbd_s, zif_pos rfl, misSheet_out ho, zbd_s, zif_pos rfl]
    exact ⟨_, _, _, rfl, rfl, hR⟩
