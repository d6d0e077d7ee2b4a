/-! ===== cell, sheet, copy ===== -/
theorem zst_ss {σ : zMem} {o k : Nat} {v : Int32} : zst σ o k v o k = v := by rw [zst_s]; unfold upd; rw [if_pos rfl]
theorem zst_sn {σ : zMem} {o k j : Nat} {v : Int32} (h : j ≠ k) : zst σ o k v o j = σ o j := by rw [zst_s]; unfold upd; rw [if_neg h]
theorem hw_out {x : Int32} {L : Nat} (hL : L ≤ 60) (ho : x < 0 ∨ nI L ≤ x) : x < 0 ∨ nI L - 1 < x := by
  rcases ho with q | q
  · exact Or.inl q
  · by_cases z : L = 0
    · rw [z] at q ⊢
      exact Or.inr (Int32.lt_of_lt_of_le (by decide) q)
    · rw [show nI L - 1 = nI (L - 1) from pk_sub (b := 1) (by omega)]
      exact Or.inr (Int32.lt_of_lt_of_le (nI_lt (by omega) (by omega)) q)
theorem hw_in {n : Nat} {σ : zMem} {i L : Nat} (hL : L ≤ 60) (hi : i < L) : FX10_within n σ (nI i) 0 (nI L - 1) = some (1, σ) := by
  rw [show nI L - 1 = nI (L - 1) from pk_sub (b := 1) (by omega)]
  exact within_in (a := 0) (by omega) (by omega) (by omega)
theorem cell_e (n t : Nat) (p1 p2 p3 : Int32) : zE t (fun σ => FX9_cell n σ p1 p2 p3) (fun σ => FX10_cell n σ p1 p2 p3) := by
  intro σx σm h
  obtain ⟨u, c, so, sn, ce, rc, rd, qs, br, ft, tr, hX, hM, hI⟩ := id h
  have X1 := XB_ft hX 0
  have M1 := MB_ft hM 0
  rcases z_cs p1 4 (by decide) with ⟨k, hk, rfl⟩ | ho
  · obtain ⟨x1, x2, x3, x4⟩ := X1.2.2.1 k hk
    obtain ⟨m1, m2, m3⟩ := M1.2.2.1 k hk
    have hs := hI.2.2.1 k hk
    rcases z_cs p3 3 (by decide) with ⟨a, ha, rfl⟩ | ho3
    · by_cases e : so k = 0
      · refine ⟨-9223372036854775808, zst (zst σx 0 10 0) 0 10 1, zst (zst σm 0 0 0) 0 0 1, ?_, ?_, zR_of (XB_ft X1 1) (MB_ft M1 1) hI⟩
        · show FX9_cell n σx _ _ _ = _
          unfold FX9_cell FX6_faultAs BX9_cell_65
          rw [zlet_s, isSheet_in hk, zbd_s, zif_neg (by decide), isLane_in ha, zbd_s, zif_neg (by decide), zgd_in hk (by decide), zcl (by omega), x1, if_pos e, zif_pos rfl, zbd_s, zlet_s, zst_ss, zif_neg (by decide), zif_neg (by decide)]
        · show FX10_cell n σm _ _ _ = _
          unfold FX10_cell BX10_cell_50
          rw [zlet_s, misSheet_in hk, zbd_s, zif_neg (by decide), isSort_in ha, zbd_s, zif_neg (by decide), zgd_in hk (by decide), zcl (by omega), m1, if_pos e, zif_pos rfl, zgd_n hk (by decide), zif_pos rfl, lost_x, zbd_s]
      · rw [if_neg e] at x1 m1
        have x2' := x2 e
        by_cases e2 : so k - 1 = a
        · rw [e2] at x2' m1
          have na : ¬ nI a = -9 := by rcases (show a = 0 ∨ a = 1 ∨ a = 2 by omega) with q | q | q <;> rw [q] <;> decide
          have X2 := XB_ft X1 0
          rcases z_cs p2 (sn k) (by omega) with ⟨i, hi, rfl⟩ | ho2
          · have hi6 : i < 60 := by omega
            have hin : 60 * k + i < 240 := by omega
            have x3' := (X2.2.2.1 k hk).2.2.1
            have x4' := (X2.2.2.1 k hk).2.2.2 i hi6
            refine ⟨(ce k i).toInt64, zst (zst σx 0 10 0) 0 10 0, zst σm 0 0 0, ?_, ?_, zR_of X2 M1 hI⟩
            · show FX9_cell n σx _ _ _ = _
              unfold FX9_cell FX6_faultAs BX9_cell_65
              rw [zlet_s, isSheet_in hk, zbd_s, zif_neg (by decide), isLane_in ha, zbd_s, zif_neg (by decide), zgd_in hk (by decide), zcl (show k < 2 ^ 31 by omega), x1, zif_neg (by decide), x2', zif_pos rfl, zbd_s, zlet_s, zst_ss, zif_pos rfl, x3', isBelow_in hi (by omega), zbd_s, zif_neg (by decide), zst_ss, zif_pos rfl, zgd_in hi6 (by decide), zcl (show i < 2 ^ 31 by omega), x4']
            · show FX10_cell n σm _ _ _ = _
              unfold FX10_cell BX10_cell_50
              rw [zlet_s, misSheet_in hk, zbd_s, zif_neg (by decide), isSort_in ha, zbd_s, zif_neg (by decide), zgd_in hk (by decide), zcl (show k < 2 ^ 31 by omega), m1, zif_neg na, zgd_n hk (by decide), zif_pos rfl, zgd_n hk (by decide), zif_neg na, zgd_n hk (by decide), m2, hw_in hs.2 hi, zbd_s, zif_neg (by decide), z60, zgd_in hin (by decide), zcl (by omega), m3 i hi6]
          · refine ⟨-9223372036854775808, zst (zst (zst σx 0 10 0) 0 10 0) 0 10 3, zst (zst σm 0 0 0) 0 0 3, ?_, ?_, zR_of (XB_ft X2 3) (MB_ft M1 3) hI⟩
            · show FX9_cell n σx _ _ _ = _
              unfold FX9_cell FX6_faultAs BX9_cell_65
              have x3' := (X2.2.2.1 k hk).2.2.1
              rw [zlet_s, isSheet_in hk, zbd_s, zif_neg (by decide), isLane_in ha, zbd_s, zif_neg (by decide), zgd_in hk (by decide), zcl (show k < 2 ^ 31 by omega), x1, zif_neg (by decide), x2', zif_pos rfl, zbd_s, zlet_s, zst_ss, zif_pos rfl, x3', isBelow_out ho2, zbd_s, zif_pos rfl, zlet_s, zst_ss, zif_neg (by decide)]
            · show FX10_cell n σm _ _ _ = _
              unfold FX10_cell BX10_cell_50
              rw [zlet_s, misSheet_in hk, zbd_s, zif_neg (by decide), isSort_in ha, zbd_s, zif_neg (by decide), zgd_in hk (by decide), zcl (show k < 2 ^ 31 by omega), m1, zif_neg na, zgd_n hk (by decide), zif_pos rfl, zgd_n hk (by decide), zif_neg na, zgd_n hk (by decide), m2, within_out (hw_out hs.2 ho2), zbd_s, zif_pos rfl, lost_x, zbd_s]
        · refine ⟨-9223372036854775808, zst (zst σx 0 10 0) 0 10 2, zst (zst σm 0 0 0) 0 0 2, ?_, ?_, zR_of (XB_ft X1 2) (MB_ft M1 2) hI⟩
          · show FX9_cell n σx _ _ _ = _
            unfold FX9_cell FX6_faultAs BX9_cell_65
            rw [zlet_s, isSheet_in hk, zbd_s, zif_neg (by decide), isLane_in ha, zbd_s, zif_neg (by decide), zgd_in hk (by decide), zcl (by omega), x1, zif_neg (by decide), x2', zif_neg (nI_ne (by omega) (by omega) e2), zbd_s, zlet_s, zst_ss, zif_neg (by decide), zif_neg (by decide)]
          · show FX10_cell n σm _ _ _ = _
            unfold FX10_cell
            rw [zlet_s, misSheet_in hk, zbd_s, zif_neg (by decide), isSort_in ha, zbd_s, zif_neg (by decide), zgd_in hk (by decide), zcl (by omega), m1, zif_neg (so_ne hs.1 e), zgd_n hk (by decide), zif_neg (nI_ne (by omega) (by omega) e2), lost_x, zbd_s]
    · refine ⟨-9223372036854775808, zst σx 0 10 0, zst σm 0 0 0, ?_, ?_, zR_of X1 M1 hI⟩
      · show FX9_cell n σx _ _ _ = _
        unfold FX9_cell
        rw [zlet_s, isSheet_in hk, zbd_s, zif_neg (by decide), isLane_out ho3, zbd_s, zif_pos rfl]
      · show FX10_cell n σm _ _ _ = _
        unfold FX10_cell
        rw [zlet_s, misSheet_in hk, zbd_s, zif_neg (by decide), isSort_out ho3, zbd_s, zif_pos rfl]
  · refine ⟨-9223372036854775808, zst σx 0 10 0, zst σm 0 0 0, ?_, ?_, zR_of X1 M1 hI⟩
    · show FX9_cell n σx _ _ _ = _
      unfold FX9_cell
      rw [zlet_s, isSheet_out ho, zbd_s, zif_pos rfl]
    · show FX10_cell n σm _ _ _ = _
      unfold FX10_cell
      rw [zlet_s, misSheet_out ho, zbd_s, zif_pos rfl]
theorem fill_lx {n q : Nat} : ∀ f k i (σ : zMem), i + k = 60 → k < f → ∃ σ', zlp (LJ7_fill_53178_5 n q) f (σ, 0, nI i, 60) = some (0, σ') ∧ (∀ o, o ≠ q → σ' o = σ o) ∧ (∀ j, j < i → σ' q j = σ q j) ∧ ∀ j, i ≤ j → j < 60 → σ' q j = 0 := by
  intro f
  induction f with
  | zero => intro k i σ _ h; omega
  | succ f ih =>
    intro k i σ hk hf
    rw [zlp_n]
    show ∃ σ', LBJ7_fill_53178_5 n q _ σ 0 (nI i) 60 = _ ∧ _
    unfold LBJ7_fill_53178_5
    rw [li_60]
    cases k with
    | zero => exact ⟨σ, by rw [zif_pos (nI_le (by omega) (by omega))], fun _ _ => rfl, fun _ _ => rfl, fun j h1 h2 => by omega⟩
    | succ k =>
      rw [zif_neg (nI_ge (by omega) (by omega)), zgd_in (show i < 60 by omega) (by decide), zlet_s, zcl (by omega), nI_1]
      obtain ⟨σ', h1, h2, h3, h4⟩ := ih k (i + 1) (zst σ q i 0) (by omega) (by omega)
      refine ⟨σ', h1, fun o ho => by rw [h2 o ho, zst_n ho], fun j hj => by rw [h3 j (by omega), zst_sn (by omega)], fun j hj1 hj2 => ?_⟩
      by_cases e : j = i
      · rw [e, h3 i (by omega), zst_ss]
      · exact h4 j (by omega) hj2
theorem msheet_lx {n kk : Nat} (hkk : kk < 4) {l2 l3 : Int32} : ∀ f k i (σ : zMem), i + k = 60 → k < f → ∃ σ', zlp (LX10_sheet_57 n) f (σ, nI kk, l2, l3, nI i) = some (1, σ') ∧ (∀ o, o ≠ 3 → σ' o = σ o) ∧ (∀ j, (j < 60 * kk + i ∨ 60 * kk + 60 ≤ j) → σ' 3 j = σ 3 j) ∧ ∀ j, i ≤ j → j < 60 → σ' 3 (60 * kk + j) = 0 := by
  intro f
  induction f with
  | zero => intro k i σ _ h; omega
  | succ f ih =>
    intro k i σ hk hf
    rw [zlp_n]
    show ∃ σ', LBX10_sheet_57 n _ σ (nI kk) l2 l3 (nI i) = _ ∧ _
    unfold LBX10_sheet_57
    cases k with
    | zero => exact ⟨σ, by rw [zif_pos (show (60 : Int32) ≤ nI i from nI_le (a := 60) (by omega) (by omega))], fun _ _ => rfl, fun _ _ => rfl, fun j h1 h2 => by omega⟩
    | succ k =>
      rw [zif_neg (show ¬ (60 : Int32) ≤ nI i from nI_ge (b := 60) (by omega) (by omega)), z60, zgd_in (show 60 * kk + i < 240 by omega) (by decide), zlet_s, zcl (by omega), nI_1]
      obtain ⟨σ', h1, h2, h3, h4⟩ := ih k (i + 1) (zst σ 3 (60 * kk + i) 0) (by omega) (by omega)
      refine ⟨σ', h1, fun o ho => by rw [h2 o ho, zst_n ho], fun j hj => by rw [h3 j (by omega), zst_sn (by omega)], fun j hj1 hj2 => ?_⟩
      by_cases e : j = i
      · rw [e, h3 _ (by omega), zst_ss]
      · exact h4 j (by omega) hj2
theorem sheet_e (n t : Nat) (hn : 100 < n) (p1 p2 p3 : Int32) : zE t (fun σ => FX9_sheet n σ p1 p2 p3) (fun σ => FX10_sheet n σ p1 p2 p3) := by
  intro σx σm h
  obtain ⟨u, c, so, sn, ce, rc, rd, qs, br, ft, tr, hX, hM, hI⟩ := id h
  have X1 := XB_ft hX 0
  have M1 := MB_ft hM 0
  have hR := zR_of X1 M1 hI
  rcases z_cs p1 4 (by decide) with ⟨k, hk, rfl⟩ | ho
  · rcases z_cs p2 3 (by decide) with ⟨a, ha, rfl⟩ | ho2
    · by_cases e3 : p3 ≤ 60
      · by_cases e0 : 0 ≤ p3
        · obtain ⟨L, hL, rfl⟩ := nI_of2 (M := 60) (n := 60) rfl (Int32.not_lt.mpr e0) e3
          obtain ⟨σ1, f1, f2, f3, f4⟩ := fill_lx (n := n) (q := 2 + k + 4) n 60 0 (zst σx 0 10 0) (by omega) (by omega)
          obtain ⟨σ2, g1, g2, g3, g4⟩ := msheet_lx (n := n) hk (l2 := nI a) (l3 := nI L) n 60 0 (zst (zst (zst σm 0 0 0) 1 k (nI a)) 2 k (nI L)) (by omega) (by omega)
          have X2 : XB (zst (zst (zst σ1 (2 + k) 1 1) (2 + k) 2 (nI a)) (2 + k) 3 (nI L)) u c (fun j => if j = k then a + 1 else so j) (fun j => if j = k then L else sn j) (fun x y => if x = k then 0 else ce x y) rc rd qs br 0 tr := by
            refine XB_sh X1 (fun o ho => by rw [zst_n (by omega), zst_n (by omega), zst_n (by omega)]; exact f2 o (by omega)) (fun j hj => ?_)
            obtain ⟨y1, y2, y3, y4⟩ := X1.2.2.1 j hj
            by_cases e : j = k
            · subst e
              rw [zst_ss, zst_sn (by decide), zst_sn (by decide), zst_ss, zst_sn (by decide), zst_ss, zst_n (by omega), zst_n (by omega), zst_n (by omega)]
              exact ⟨by simp, fun _ => by simp, by simp, fun i hi => by rw [f4 i (by omega) hi]; simp⟩
            · rw [zst_n (by omega), zst_n (by omega), zst_n (by omega), zst_n (by omega), zst_n (by omega), zst_n (by omega), f2 _ (by omega), f2 _ (by omega)]
              simp only [if_neg e]
              exact ⟨y1, y2, y3, y4⟩
          have M2 : MB σ2 u c (fun j => if j = k then a + 1 else so j) (fun j => if j = k then L else sn j) (fun x y => if x = k then 0 else ce x y) rc rd qs br 0 tr := by
            refine MB_sh M1 (fun o ho => by rw [g2 o (by omega), zst_n (by omega), zst_n (by omega)]) (fun j hj => ?_)
            obtain ⟨y1, y2, y3⟩ := M1.2.2.1 j hj
            rw [g2 1 (by decide), g2 2 (by decide), zst_n (show (1 : Nat) ≠ 2 by decide)]
            by_cases e : j = k
            · subst e
              rw [zst_ss, zst_ss]
              exact ⟨by simp, by simp, fun i hi => by rw [g4 i (by omega) hi]; simp⟩
            · rw [zst_sn e, zst_sn e, zst_n (show (2 : Nat) ≠ 1 by decide)]
              simp only [if_neg e]
              exact ⟨y1, y2, fun i hi => by rw [g3 _ (by omega), zst_n (by decide), zst_n (by decide)]; exact y3 i hi⟩
          have I2 : IB t u c (fun j => if j = k then a + 1 else so j) (fun j => if j = k then L else sn j) rc rd := IB_sh hI (fun j hj => by have := hI.2.2.1 j hj; by_cases e : j = k <;> simp [e] <;> first | omega | (exact this))
          refine ⟨1, _, σ2, ?_, ?_, zR_of X2 M2 I2⟩
          · show FX9_sheet n σx _ _ _ = _
            unfold FX9_sheet FX6_begin FJ7_fill_53178
            rw [zlet_s, isSheet_in hk, zbd_s, zif_neg (by decide), isLane_in ha, zbd_s, zif_neg (by decide), zif_pos e3, zif_pos e0, zgd_in hk (by decide), zcl (by omega), show zlp (LJ7_fill_53178_5 n (2 + k + 4)) n (zst σx 0 10 0, 0, 0, 60) = _ from f1, zbd_s, zlet_s, zlet_s, zlet_s, zbd_s]
          · show FX10_sheet n σm _ _ _ = _
            unfold FX10_sheet
            rw [zlet_s, misSheet_in hk, zbd_s, zif_neg (by decide), isSort_in ha, zbd_s, zif_neg (by decide), zif_pos e3, zif_pos e0, zgd_in hk (by decide), zlet_s, zgd_in hk (by decide), zlet_s, zcl (by omega)]
            exact g1
        · refine ⟨-10 - 4, zst (zst σx 0 10 0) 0 10 4, zst (zst σm 0 0 0) 0 0 4, ?_, ?_, zR_of (XB_ft X1 4) (MB_ft M1 4) hI⟩
          · show FX9_sheet n σx _ _ _ = _
            unfold FX9_sheet
            rw [zlet_s, isSheet_in hk, zbd_s, zif_neg (by decide), isLane_in ha, zbd_s, zif_neg (by decide), zif_pos e3, zif_neg e0, failed_x, zbd_s]
          · show FX10_sheet n σm _ _ _ = _
            unfold FX10_sheet
            rw [zlet_s, misSheet_in hk, zbd_s, zif_neg (by decide), isSort_in ha, zbd_s, zif_neg (by decide), zif_pos e3, zif_neg e0, fails_x, zbd_s]
      · refine ⟨-2, zst σx 0 10 0, zst σm 0 0 0, ?_, ?_, hR⟩
        · show FX9_sheet n σx _ _ _ = _
          unfold FX9_sheet
          rw [zlet_s, isSheet_in hk, zbd_s, zif_neg (by decide), isLane_in ha, zbd_s, zif_neg (by decide), zif_neg e3]
        · show FX10_sheet n σm _ _ _ = _
          unfold FX10_sheet
          rw [zlet_s, misSheet_in hk, zbd_s, zif_neg (by decide), isSort_in ha, zbd_s, zif_neg (by decide), zif_neg e3]
    · refine ⟨-2, zst σx 0 10 0, zst σm 0 0 0, ?_, ?_, hR⟩
      · show FX9_sheet n σx _ _ _ = _
        unfold FX9_sheet
        rw [zlet_s, isSheet_in hk, zbd_s, zif_neg (by decide), isLane_out ho2, zbd_s, zif_pos rfl]
      · show FX10_sheet n σm _ _ _ = _
        unfold FX10_sheet
        rw [zlet_s, misSheet_in hk, zbd_s, zif_neg (by decide), isSort_out ho2, zbd_s, zif_pos rfl]
  · refine ⟨-1, zst σx 0 10 0, zst σm 0 0 0, ?_, ?_, hR⟩
    · show FX9_sheet n σx _ _ _ = _
      unfold FX9_sheet
      rw [zlet_s, isSheet_out ho, zbd_s, zif_pos rfl]
    · show FX10_sheet n σm _ _ _ = _
      unfold FX10_sheet
      rw [zlet_s, misSheet_out ho, zbd_s, zif_pos rfl]
