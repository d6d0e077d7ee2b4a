/-! ===== sheets ===== -/
theorem isSheet_in {n k : Nat} {σ : zMem} (h : k < 4) : FX9_isSheet n σ (nI k) = some (1, σ) := by
  unfold FX9_isSheet
  rw [li_4, isBelow_in h (by decide), zbd_s, zgd_t (Or.inr rfl)]
theorem isSheet_out {n : Nat} {σ : zMem} {x : Int32} (h : x < 0 ∨ nI 4 ≤ x) : FX9_isSheet n σ x = some (0, σ) := by
  unfold FX9_isSheet
  rw [li_4, isBelow_out h, zbd_s, zgd_t (Or.inl rfl)]
theorem isLane_in {n k : Nat} {σ : zMem} (h : k < 3) : FX9_isLane n σ (nI k) = some (1, σ) := by
  unfold FX9_isLane
  rcases (show k = 0 ∨ k = 1 ∨ k = 2 by omega) with rfl | rfl | rfl
  · rw [zif_pos (by decide)]; rfl
  · rw [zif_neg (by decide), zif_pos (by decide)]; rfl
  · rw [zif_neg (by decide), zif_neg (by decide), zif_pos (by decide)]; rfl
theorem isLane_out {n : Nat} {σ : zMem} {x : Int32} (h : x < 0 ∨ nI 3 ≤ x) : FX9_isLane n σ x = some (0, σ) := by
  unfold FX9_isLane
  rw [zif_neg, zif_neg, zif_neg]
  · rintro rfl; exact absurd h (by decide)
  · rintro rfl; exact absurd h (by decide)
  · rintro rfl; exact absurd h (by decide)
theorem misSheet_in {n k : Nat} {σ : zMem} (h : k < 4) : FX10_isSheet n σ (nI k) = some (1, σ) := by
  unfold FX10_isSheet
  rw [show FX10_within n σ (nI k) 0 3 = some (1, σ) from within_in (a := 0) (b := 3) (by omega) (by omega) (by decide), zbd_s, zgd_t (Or.inr rfl)]
theorem misSheet_out {n : Nat} {σ : zMem} {x : Int32} (h : x < 0 ∨ nI 4 ≤ x) : FX10_isSheet n σ x = some (0, σ) := by
  unfold FX10_isSheet
  rw [within_out (show x < 0 ∨ 3 < x from z_cs' (b := 3) (by decide) h), zbd_s, zgd_t (Or.inl rfl)]
theorem isSort_in {n k : Nat} {σ : zMem} (h : k < 3) : FX10_isSort n σ (nI k) = some (1, σ) := by
  unfold FX10_isSort
  rw [show FX10_within n σ (nI k) 0 2 = some (1, σ) from within_in (a := 0) (b := 2) (by omega) (by omega) (by decide), zbd_s, zgd_t (Or.inr rfl)]
theorem isSort_out {n : Nat} {σ : zMem} {x : Int32} (h : x < 0 ∨ nI 3 ≤ x) : FX10_isSort n σ x = some (0, σ) := by
  unfold FX10_isSort
  rw [within_out (show x < 0 ∨ 2 < x from z_cs' (b := 2) (by decide) h), zbd_s, zgd_t (Or.inl rfl)]
theorem failed_x {n : Nat} {σ : zMem} {v : Int32} : FX9_failed n σ v = some (-10 - v, zst σ 0 10 v) := rfl
theorem fails_x {n : Nat} {σ : zMem} {v : Int32} : FX10_fails n σ v = some (-10 - v, zst σ 0 0 v) := rfl
theorem lost_x {n : Nat} {σ : zMem} {v : Int32} : FX10_lost n σ v = some (-9223372036854775808, zst σ 0 0 v) := rfl
/-- a number j, up to 60, of cells behind k sheets, as an int -/
theorem z60 {k i : Nat} : (60 : Int32) * nI k + nI i = nI (60 * k + i) := by rw [li_60, pk_mul, nI_add]
section ZS
variable {σ : zMem} {u : Nat → Nat → Nat} {c : Nat} {so sn : Nat → Nat} {ce : Nat → Nat → Int32} {rc : Nat} {rd : Nat → Nat → Nat} {qs br ft tr : Int32}
/-- new sheets, on the class's side: all else stays -/
theorem XB_sh {σ' : zMem} {so' sn' : Nat → Nat} {ce' : Nat → Nat → Int32} (h : XB σ u c so sn ce rc rd qs br ft tr) (e : ∀ o, o < 2 ∨ 10 ≤ o → σ' o = σ o) (hs : xS σ' so' sn' ce') : XB σ' u c so' sn' ce' rc rd qs br ft tr := by
  obtain ⟨a1, a2, a3, a4⟩ := h
  exact ⟨xC_k a1 (fun o ho => e o (by omega)), uV_k a2 (fun o h1 h2 => e o (by omega)), hs, xR_k a4 (fun o h1 h2 => e o (by omega))⟩
theorem MB_sh {σ' : zMem} {so' sn' : Nat → Nat} {ce' : Nat → Nat → Int32} (h : MB σ u c so sn ce rc rd qs br ft tr) (e : ∀ o, o = 0 ∨ 4 ≤ o → σ' o = σ o) (hs : mS σ' so' sn' ce') : MB σ' u c so' sn' ce' rc rd qs br ft tr := by
  obtain ⟨b1, b2, b3, b4⟩ := h
  exact ⟨mC_k b1 (e 0 (by omega)), mV_k b2 (fun o h1 h2 => e o (by omega)), hs, mR_k b4 (by rw [e 0 (by omega)]) (fun o h1 h2 => e o (by omega))⟩
theorem IB_sh {t : Nat} {so' sn' : Nat → Nat} (h : IB t u c so sn rc rd) (hs : ∀ k, k < 4 → so' k ≤ 3 ∧ sn' k ≤ 60) : IB t u c so' sn' rc rd := ⟨h.1, h.2.1, hs, h.2.2.2⟩
end ZS
theorem lose_e (n t : Nat) (p1 : Int32) : zE t (fun σ => FX9_lose n σ p1) (fun σ => FX10_lose n σ p1) := by
  intro σx σm h
  obtain ⟨u, c, so, sn, ce, rc, rd, qs, br, ft, tr, hX, hM, hI⟩ := id h
  rcases z_cs p1 4 (by decide) with ⟨k, hk, rfl⟩ | ho
  · obtain ⟨x1, x2, x3, x4⟩ := hX.2.2.1 k hk
    obtain ⟨m1, m2, m3⟩ := hM.2.2.1 k hk
    have hX' : XB (zst σx (2 + k) 1 0) u c (fun j => if j = k then 0 else so j) sn ce rc rd qs br ft tr := by
      refine XB_sh hX (fun o ho => zst_n (by omega)) (fun j hj => ?_)
      obtain ⟨y1, y2, y3, y4⟩ := hX.2.2.1 j hj
      rw [zst_n (show 2 + j + 4 ≠ 2 + k by omega)]
      by_cases e : j = k
      · subst e
        rw [zst_s]
        exact ⟨by simp [upd], fun q => absurd (if_pos rfl) q, by simp [upd]; exact y3, y4⟩
      · rw [zst_n (by omega)]
        simp only [if_neg e]
        exact ⟨y1, y2, y3, y4⟩
    have hM' : MB (zst σm 1 k (-9)) u c (fun j => if j = k then 0 else so j) sn ce rc rd qs br ft tr := by
      refine MB_sh hM (fun o ho => zst_n (by omega)) (fun j hj => ?_)
      obtain ⟨y1, y2, y3⟩ := hM.2.2.1 j hj
      rw [zst_s, zst_n (show (2 : Nat) ≠ 1 by decide), zst_n (show (3 : Nat) ≠ 1 by decide)]
      refine ⟨?_, y2, y3⟩
      by_cases e : j = k
      · subst e; simp [upd]
      · simp only [upd, if_neg e]; exact y1
    have hI' : IB t u c (fun j => if j = k then 0 else so j) sn rc rd := IB_sh hI (fun j hj => by have := hI.2.2.1 j hj; by_cases e : j = k <;> simp [e] <;> first | omega | (subst e; exact this.2))
    by_cases e : so k = 0
    · refine ⟨0, zst σx (2 + k) 1 0, zst σm 1 k (-9), ?_, ?_, zR_of hX' hM' hI'⟩
      · show FX9_lose n σx _ = _
        unfold FX9_lose BX9_lose_26
        rw [isSheet_in hk, zbd_s, zif_neg (by decide), zgd_in hk (by decide), zcl (by omega), x1, if_pos e, zif_pos rfl, zgd_n hk (by decide), zlet_s]
      · show FX10_lose n σm _ = _
        unfold FX10_lose BX10_lose_25
        rw [misSheet_in hk, zbd_s, zif_neg (by decide), zgd_in hk (by decide), zcl (by omega), m1, if_pos e, zif_pos rfl, zgd_n hk (by decide), zlet_s]
    · have hs := hI.2.2.1 k hk
      refine ⟨1, zst σx (2 + k) 1 0, zst σm 1 k (-9), ?_, ?_, zR_of hX' hM' hI'⟩
      · show FX9_lose n σx _ = _
        unfold FX9_lose BX9_lose_26
        rw [isSheet_in hk, zbd_s, zif_neg (by decide), zgd_in hk (by decide), zcl (by omega), x1, if_neg e, zif_neg (by decide), zgd_n hk (by decide), zlet_s]
      · show FX10_lose n σm _ = _
        unfold FX10_lose BX10_lose_25
        rw [misSheet_in hk, zbd_s, zif_neg (by decide), zgd_in hk (by decide), zcl (by omega), m1, if_neg e, zif_neg (show ¬ nI (so k - 1) = -9 by rcases (show so k = 1 ∨ so k = 2 ∨ so k = 3 by omega) with q | q | q <;> rw [q] <;> decide), zgd_n hk (by decide), zlet_s]
  · refine ⟨-1, σx, σm, ?_, ?_, zR_next h⟩
    · show FX9_lose n σx _ = _
      unfold FX9_lose
      rw [isSheet_out ho, zbd_s, zif_pos rfl]
    · show FX10_lose n σm _ = _
      unfold FX10_lose
      rw [misSheet_out ho, zbd_s, zif_pos rfl]
/-- a sheet's sort on the reference's side, if it has one -/
theorem so_ne {k : Nat} {so : Nat → Nat} (h : so k ≤ 3) (e : ¬ so k = 0) : ¬ nI (so k - 1) = -9 := by rcases (show so k = 1 ∨ so k = 2 ∨ so k = 3 by omega) with q | q | q <;> rw [q] <;> decide
/-- one cell of a sheet -/
def upc (ce : Nat → Nat → Int32) (k i : Nat) (v : Int32) : Nat → Nat → Int32 := fun a b => if a = k ∧ b = i then v else ce a b
theorem XB_ce {σ : zMem} {u : Nat → Nat → Nat} {c : Nat} {so sn : Nat → Nat} {ce : Nat → Nat → Int32} {rc : Nat} {rd : Nat → Nat → Nat} {qs br ft tr : Int32} (h : XB σ u c so sn ce rc rd qs br ft tr) {k i : Nat} (hk : k < 4) (v : Int32) : XB (zst σ (2 + k + 4) i v) u c so sn (upc ce k i v) rc rd qs br ft tr := by
  refine XB_sh h (fun o ho => zst_n (by omega)) (fun j hj => ?_)
  obtain ⟨y1, y2, y3, y4⟩ := h.2.2.1 j hj
  rw [zst_n (show 2 + j ≠ 2 + k + 4 by omega)]
  refine ⟨y1, y2, y3, fun a ha => ?_⟩
  unfold upc
  by_cases e : j = k
  · subst e
    rw [zst_s]
    unfold upd
    by_cases e2 : a = i
    · rw [if_pos e2, if_pos ⟨rfl, e2⟩]
    · rw [if_neg e2, if_neg (fun q => e2 q.2)]
      exact y4 a ha
  · rw [zst_n (by omega), if_neg (fun q => e q.1)]
    exact y4 a ha
theorem MB_ce {σ : zMem} {u : Nat → Nat → Nat} {c : Nat} {so sn : Nat → Nat} {ce : Nat → Nat → Int32} {rc : Nat} {rd : Nat → Nat → Nat} {qs br ft tr : Int32} (h : MB σ u c so sn ce rc rd qs br ft tr) {k i : Nat} (hi : i < 60) (v : Int32) : MB (zst σ 3 (60 * k + i) v) u c so sn (upc ce k i v) rc rd qs br ft tr := by
  refine MB_sh h (fun o ho => zst_n (by omega)) (fun j hj => ?_)
  obtain ⟨y1, y2, y3⟩ := h.2.2.1 j hj
  rw [zst_n (show (1 : Nat) ≠ 3 by decide), zst_n (show (2 : Nat) ≠ 3 by decide), zst_s]
  refine ⟨y1, y2, fun a ha => ?_⟩
  unfold upc upd
  by_cases e : j = k ∧ a = i
  · rw [if_pos e, if_pos (by rw [e.1, e.2])]
  · rw [if_neg e, if_neg (by omega)]
    exact y3 a ha
theorem put_e (n t : Nat) (p1 p2 p3 : Int32) : zE t (fun σ => FX9_put n σ p1 p2 p3) (fun σ => FX10_put n σ p1 p2 p3) := by
  intro σx σm h
  obtain ⟨u, c, so, sn, ce, rc, rd, qs, br, ft, tr, hX, hM, hI⟩ := id h
  have X1 := XB_ft hX 0
  have M1 := MB_ft hM 0
  rcases z_cs p1 4 (by decide) with ⟨k, hk, rfl⟩ | ho
  · obtain ⟨x1, x2, x3, x4⟩ := X1.2.2.1 k hk
    obtain ⟨m1, m2, m3⟩ := M1.2.2.1 k hk
    have hs := hI.2.2.1 k hk
    by_cases e : so k = 0
    · refine ⟨-10 - 1, zst (zst σx 0 10 0) 0 10 1, zst (zst σm 0 0 0) 0 0 1, ?_, ?_, zR_of (XB_ft X1 1) (MB_ft M1 1) hI⟩
      · show FX9_put n σx _ _ _ = _
        unfold FX9_put
        rw [zlet_s, isSheet_in hk, zbd_s, zif_neg (by decide), zgd_in hk (by decide), zcl (by omega), x1, if_pos e, zif_pos rfl, failed_x, zbd_s]
      · show FX10_put n σm _ _ _ = _
        unfold FX10_put
        rw [zlet_s, misSheet_in hk, zbd_s, zif_neg (by decide), zgd_in hk (by decide), zcl (by omega), m1, if_pos e, zif_pos rfl, fails_x, zbd_s]
    · rcases z_cs p2 (sn k) (by omega) with ⟨i, hi, rfl⟩ | ho2
      · have hi6 : i < 60 := by omega
        have hin : 60 * k + i < 240 := by omega
        rw [if_neg e] at x1 m1
        have x2' := x2 e
        rcases (show so k = 1 ∨ so k = 2 ∨ so k = 3 by omega) with q | q | q
        · rw [q] at x2' m1
          refine ⟨1, _, _, ?_, ?_, zR_of (XB_ce X1 hk (i := i) p3.toInt8.toInt32) (MB_ce M1 (k := k) hi6 p3.toInt8.toInt32) hI⟩
          · show FX9_put n σx _ _ _ = _
            unfold FX9_put FX6_cut
            rw [zlet_s, isSheet_in hk, zbd_s, zif_neg (by decide), zgd_in hk (by decide), zcl (show k < 2 ^ 31 by omega), x1, zif_neg (by decide), x3, isBelow_in hi (by omega), zbd_s, zif_neg (by decide), x2', zif_pos (by decide), zbd_s, zgd_in hi6 (by decide), zcl (show i < 2 ^ 31 by omega), zlet_s]
          · show FX10_put n σm _ _ _ = _
            unfold FX10_put
            rw [zlet_s, misSheet_in hk, zbd_s, zif_neg (by decide), zgd_in hk (by decide), zcl (show k < 2 ^ 31 by omega), m1, zif_neg (by decide), zgd_n hk (by decide), m2, show nI (sn k) - 1 = nI (sn k - 1) from pk_sub (b := 1) (by omega), show FX10_within n (zst σm 0 0 0) (nI i) 0 (nI (sn k - 1)) = some (1, zst σm 0 0 0) from within_in (a := 0) (by omega) (by omega) (by omega), zbd_s, zif_neg (by decide), zgd_n hk (by decide), m1, zif_pos (by decide), z60, zgd_in hin (by decide), zcl (by omega), zlet_s]
        · rw [q] at x2' m1
          refine ⟨1, _, _, ?_, ?_, zR_of (XB_ce X1 hk (i := i) p3.toInt16.toInt32) (MB_ce M1 (k := k) hi6 p3.toInt16.toInt32) hI⟩
          · show FX9_put n σx _ _ _ = _
            unfold FX9_put FX6_cut
            rw [zlet_s, isSheet_in hk, zbd_s, zif_neg (by decide), zgd_in hk (by decide), zcl (show k < 2 ^ 31 by omega), x1, zif_neg (by decide), x3, isBelow_in hi (by omega), zbd_s, zif_neg (by decide), x2', zif_neg (by decide), zif_pos (by decide), zbd_s, zgd_in hi6 (by decide), zcl (show i < 2 ^ 31 by omega), zlet_s]
          · show FX10_put n σm _ _ _ = _
            unfold FX10_put
            rw [zlet_s, misSheet_in hk, zbd_s, zif_neg (by decide), zgd_in hk (by decide), zcl (show k < 2 ^ 31 by omega), m1, zif_neg (by decide), zgd_n hk (by decide), m2, show nI (sn k) - 1 = nI (sn k - 1) from pk_sub (b := 1) (by omega), show FX10_within n (zst σm 0 0 0) (nI i) 0 (nI (sn k - 1)) = some (1, zst σm 0 0 0) from within_in (a := 0) (by omega) (by omega) (by omega), zbd_s, zif_neg (by decide), zgd_n hk (by decide), m1, zif_neg (by decide), zgd_n hk (by decide), zif_pos (by decide), z60, zgd_in hin (by decide), zcl (by omega), zlet_s]
        · rw [q] at x2' m1
          refine ⟨1, _, _, ?_, ?_, zR_of (XB_ce X1 hk (i := i) p3) (MB_ce M1 (k := k) hi6 p3) hI⟩
          · show FX9_put n σx _ _ _ = _
            unfold FX9_put FX6_cut
            rw [zlet_s, isSheet_in hk, zbd_s, zif_neg (by decide), zgd_in hk (by decide), zcl (show k < 2 ^ 31 by omega), x1, zif_neg (by decide), x3, isBelow_in hi (by omega), zbd_s, zif_neg (by decide), x2', zif_neg (by decide), zif_neg (by decide), zbd_s, zgd_in hi6 (by decide), zcl (show i < 2 ^ 31 by omega), zlet_s]
          · show FX10_put n σm _ _ _ = _
            unfold FX10_put
            rw [zlet_s, misSheet_in hk, zbd_s, zif_neg (by decide), zgd_in hk (by decide), zcl (show k < 2 ^ 31 by omega), m1, zif_neg (by decide), zgd_n hk (by decide), m2, show nI (sn k) - 1 = nI (sn k - 1) from pk_sub (b := 1) (by omega), show FX10_within n (zst σm 0 0 0) (nI i) 0 (nI (sn k - 1)) = some (1, zst σm 0 0 0) from within_in (a := 0) (by omega) (by omega) (by omega), zbd_s, zif_neg (by decide), zgd_n hk (by decide), m1, zif_neg (by decide), zgd_n hk (by decide), zif_neg (by decide), z60, zgd_in hin (by decide), zcl (by omega), zlet_s]
      · refine ⟨-10 - 3, zst (zst σx 0 10 0) 0 10 3, zst (zst σm 0 0 0) 0 0 3, ?_, ?_, zR_of (XB_ft X1 3) (MB_ft M1 3) hI⟩
        · show FX9_put n σx _ _ _ = _
          unfold FX9_put
          rw [zlet_s, isSheet_in hk, zbd_s, zif_neg (by decide), zgd_in hk (by decide), zcl (by omega), x1, if_neg e, zif_neg (by decide), x3, isBelow_out ho2, zbd_s, zif_pos rfl, failed_x, zbd_s]
        · show FX10_put n σm _ _ _ = _
          unfold FX10_put
          have hw : p2 < 0 ∨ nI (sn k) - 1 < p2 := by
            rcases ho2 with q | q
            · exact Or.inl q
            · by_cases z : sn k = 0
              · rw [z] at q ⊢
                exact Or.inr (Int32.lt_of_lt_of_le (by decide) q)
              · rw [show nI (sn k) - 1 = nI (sn k - 1) from pk_sub (b := 1) (by omega)]
                exact Or.inr (Int32.lt_of_lt_of_le (nI_lt (by omega) (by omega)) q)
          rw [zlet_s, misSheet_in hk, zbd_s, zif_neg (by decide), zgd_in hk (by decide), zcl (by omega), m1, if_neg e, zif_neg (so_ne hs.1 e), zgd_n hk (by decide), m2, within_out hw, zbd_s, zif_pos rfl, fails_x, zbd_s]
  · refine ⟨-1, zst σx 0 10 0, zst σm 0 0 0, ?_, ?_, zR_of X1 M1 hI⟩
    · show FX9_put n σx _ _ _ = _
      unfold FX9_put
      rw [zlet_s, isSheet_out ho, zbd_s, zif_pos rfl]
    · show FX10_put n σm _ _ _ = _
      unfold FX10_put
      rw [zlet_s, misSheet_out ho, zbd_s, zif_pos rfl]
