/-! ===== brings, question, feint, tell, greet, as, reading, back ===== -/
theorem brings_e (n t : Nat) (p1 p2 : Int32) : zE t (fun σ => FX9_brings n σ p1 p2) (fun σ => FX10_brings n σ p1 p2) := by
  intro σx σm h
  obtain ⟨u, c, so, sn, ce, rc, rd, qs, br, ft, tr, hX, hM, hI⟩ := id h
  have hc : c < 2 ^ 31 := by have := hI.2.1; omega
  rcases z_cs p1 c hc with ⟨j, hj, rfl⟩ | ho
  · have hj6 : j < 6 := by have := hI.2.1; omega
    rcases z_cM p2 (c := c) with ⟨m, hm, h0, rfl⟩ | ho2
    · refine ⟨nI (brN u j m), σx, σm, ?_, ?_, zR_next h⟩
      · show FX9_brings n σx _ _ = _
        unfold FX9_brings
        rw [hasPerson_in hX.1.1 hj hc, zbd_s, zif_neg (by decide), hasMatter_in hX.1.1 hm h0 hc, zbd_s, zif_neg (by decide), bringing_x hX.2.1 hI.1 hj6 hm, zbd_s]
      · show FX10_brings n σm _ _ = _
        unfold FX10_brings
        rw [isPerson_in hM.1.1 hj hc, zbd_s, zif_neg (by decide), isMatter_in hM.1.1 hm h0 hc, zbd_s, zif_neg (by decide), bringsOf_x hM.2.1 hI.1 hj6 hm, zbd_s]
    · refine ⟨-1, σx, σm, ?_, ?_, zR_next h⟩
      · show FX9_brings n σx _ _ = _
        unfold FX9_brings
        rw [hasPerson_in hX.1.1 hj hc, zbd_s, zif_neg (by decide), hasMatter_out hX.1.1 ho2, zbd_s, zif_pos rfl]
      · show FX10_brings n σm _ _ = _
        unfold FX10_brings
        rw [isPerson_in hM.1.1 hj hc, zbd_s, zif_neg (by decide), isMatter_out hM.1.1 ho2, zbd_s, zif_pos rfl]
  · refine ⟨-1, σx, σm, ?_, ?_, zR_next h⟩
    · show FX9_brings n σx _ _ = _
      unfold FX9_brings
      rw [hasPerson_out hX.1.1 ho, zbd_s, zif_pos rfl]
    · show FX10_brings n σm _ _ = _
      unfold FX10_brings
      rw [isPerson_out hM.1.1 ho, zbd_s, zif_pos rfl]
theorem aB {u : Nat → Nat → Nat} {T : Nat} (hb : uB u T) (hT : T < 1000) : ∀ p, p < 6 → u 1 p < 2 ^ 31 := fun p hp => by have := (hb.1 p hp).2.1; omega
theorem feint_e (n t : Nat) (hn : 6 < n) (ht : t < 600) (p1 : Int32) : zE t (fun σ => FX9_feint n σ p1) (fun σ => FX10_feint n σ p1) := by
  intro σx σm h
  obtain ⟨u, c, so, sn, ce, rc, rd, qs, br, ft, tr, hX, hM, hI⟩ := id h
  have hc : c < 2 ^ 31 := by have := hI.2.1; omega
  rcases z_cs p1 c hc with ⟨j, hj, rfl⟩ | ho
  · have hc6 : c ≤ 6 := by have := hI.2.1; omega
    have hj6 : j < 6 := by omega
    have h0 : 0 < c := by omega
    have hf := fsN_lt (a := u 1) h0
    have x1 := hX.2.1.1 j hj6 1 (by decide)
    have m1 := hM.2.1.1 j hj6 1 (by decide)
    have hA := (hI.1.1 j hj6).2.1
    have fx := first_x (n := n) hn hX.1.1 hc6 h0 (fun p hp => hX.2.1.1 p hp 1 (by decide)) (aB hI.1 (by omega))
    have fm := firstOf_x (n := n) hn hM.1.1 hc6 h0 (fun p hp => hM.2.1.1 p hp 1 (by decide)) (aB hI.1 (by omega))
    by_cases e : fsN (u 1) c = j
    · refine ⟨nI (u 1 j + 1), zst σx (13 + j) 1 (nI (u 1 j + 1)), zst σm (5 + 1) j (nI (u 1 j + 1)), ?_, ?_, zR_of' (XB_per hX _ (by decide) hj6) (MB_per hM _ (by decide) hj6) (IB_up hI ⟨fun e => by omega, fun e => by omega, fun e => by omega, fun e => by omega, fun e => by omega⟩)⟩
      · show FX9_feint n σx _ = _
        unfold FX9_feint
        rw [hasPerson_in hX.1.1 hj hc, zbd_s, zif_neg (by decide), fx, zbd_s, e, zif_pos rfl, zgd_in hj6 (by decide), zlet_s, zgd_in hj6 (by decide), zcl (by omega), x1, nI_1, zst_s]
        unfold upd
        rw [if_pos rfl]
      · show FX10_feint n σm _ = _
        unfold FX10_feint
        rw [isPerson_in hM.1.1 hj hc, zbd_s, zif_neg (by decide), fm, zbd_s, e, zif_pos rfl, zgd_in hj6 (by decide), zgd_in hj6 (by decide), zlet_s, zgd_in hj6 (by decide), zcl (by omega), m1, nI_1, zst_s]
        unfold upd
        rw [if_pos rfl]
    · refine ⟨-3, σx, σm, ?_, ?_, zR_next h⟩
      · show FX9_feint n σx _ = _
        unfold FX9_feint
        rw [hasPerson_in hX.1.1 hj hc, zbd_s, zif_neg (by decide), fx, zbd_s, zif_neg (nI_ne (by omega) (by omega) e)]
      · show FX10_feint n σm _ = _
        unfold FX10_feint
        rw [isPerson_in hM.1.1 hj hc, zbd_s, zif_neg (by decide), fm, zbd_s, zif_neg (nI_ne (by omega) (by omega) (fun q => e q.symm))]
  · refine ⟨-1, σx, σm, ?_, ?_, zR_next h⟩
    · show FX9_feint n σx _ = _
      unfold FX9_feint
      rw [hasPerson_out hX.1.1 ho, zbd_s, zif_pos rfl]
    · show FX10_feint n σm _ = _
      unfold FX10_feint
      rw [isPerson_out hM.1.1 ho, zbd_s, zif_pos rfl]
theorem question_e (n t : Nat) (hn : 6 < n) (ht : t < 600) (p1 : Int32) : zE t (fun σ => FX9_question n σ p1) (fun σ => FX10_question n σ p1) := by
  intro σx σm h
  obtain ⟨u, c, so, sn, ce, rc, rd, qs, br, ft, tr, hX, hM, hI⟩ := id h
  have hc : c < 2 ^ 31 := by have := hI.2.1; omega
  rcases z_cM p1 (c := c) with ⟨m, hm, h0, rfl⟩ | ho
  · have hc6 : c ≤ 6 := by have := hI.2.1; omega
    have hf := fsN_lt (a := u 1) h0
    have fx := first_x (n := n) hn hX.1.1 hc6 h0 (fun p hp => hX.2.1.1 p hp 1 (by decide)) (aB hI.1 (by omega))
    have fm := firstOf_x (n := n) hn hM.1.1 hc6 h0 (fun p hp => hM.2.1.1 p hp 1 (by decide)) (aB hI.1 (by omega))
    generalize fsN (u 1) c = j at hf fx fm
    have hj6 : j < 6 := by omega
    have x1 : σx (13 + j) 1 = nI (u 1 j) := hX.2.1.1 j hj6 1 (by decide)
    have m1 : σm 6 j = nI (u 1 j) := hM.2.1.1 j hj6 1 (by decide)
    have hA := (hI.1.1 j hj6).2.1
    have X1 := XB_per hX (f := 1) (u 1 j + 1) (by decide) hj6
    have M1 : MB (zst σm 6 j (nI (u 1 j + 1))) _ _ _ _ _ _ _ _ _ _ _ := MB_per hM (f := 1) (u 1 j + 1) (by decide) hj6
    have I1 : IB (t + 1) (up2 u 1 j (u 1 j + 1)) c so sn rc rd := IB_up hI ⟨fun e => by omega, fun e => by omega, fun e => by omega, fun e => by omega, fun e => by omega⟩
    have X2 := XB_qs X1 (qs + 1)
    have M2 := MB_qs M1 (qs + 1)
    have X3 := XB_br X2 (br + nI (brN (up2 u 1 j (u 1 j + 1)) j m))
    have M3 := MB_br M2 (br + nI (brN (up2 u 1 j (u 1 j + 1)) j m))
    refine ⟨nI j, _, _, ?_, ?_, zR_of' X3 M3 I1⟩
    · show FX9_question n σx _ = _
      unfold FX9_question
      rw [hasMatter_in hX.1.1 hm h0 hc, zbd_s, zif_neg (by decide), fx, zbd_s, zgd_in hj6 (by decide), zlet_s, zlet_s, zcl (by omega), x1, nI_1, X1.1.2.1, bringing_x X2.2.1 I1.1 hj6 hm, zbd_s, X2.1.2.2.1, zlet_s]
    · show FX10_question n σm _ = _
      unfold FX10_question
      rw [isMatter_in hM.1.1 hm h0 hc, zbd_s, zif_neg (by decide), fm, zbd_s, zgd_in hj6 (by decide), zgd_in hj6 (by decide), zlet_s, zlet_s, zcl (by omega), m1, nI_1, M1.1.2.1, bringsOf_x M2.2.1 I1.1 hj6 hm, zbd_s, M2.1.2.2.1, zlet_s]
  · refine ⟨-1, σx, σm, ?_, ?_, zR_next h⟩
    · show FX9_question n σx _ = _
      unfold FX9_question
      rw [hasMatter_out hX.1.1 ho, zbd_s, zif_pos rfl]
    · show FX10_question n σm _ = _
      unfold FX10_question
      rw [isMatter_out hM.1.1 ho, zbd_s, zif_pos rfl]
theorem as_e (n t : Nat) (p1 p2 : Int32) : zE t (fun σ => FX9_as n σ p1 p2) (fun σ => FX10_as n σ p1 p2) := by
  intro σx σm h
  obtain ⟨u, c, so, sn, ce, rc, rd, qs, br, ft, tr, hX, hM, hI⟩ := id h
  have hc : c < 2 ^ 31 := by have := hI.2.1; omega
  have X1 := XB_ft hX 0
  have M1 := MB_ft hM 0
  have hR := zR_of X1 M1 hI
  rcases z_cs p1 c hc with ⟨j, hj, rfl⟩ | ho
  · have hj6 : j < 6 := by have := hI.2.1; omega
    rcases z_cs p2 3 (by decide) with ⟨k, hk, rfl⟩ | ho2
    · have x0 := X1.2.1.1 j hj6 0 (by decide)
      have m0 := M1.2.1.1 j hj6 0 (by decide)
      have hA := (hI.1.1 j hj6).1
      by_cases e : u 0 j < k
      · refine ⟨-10 - 2, zst (zst σx 0 10 0) 0 10 2, zst (zst σm 0 0 0) 0 0 2, ?_, ?_, zR_of (XB_ft X1 2) (MB_ft M1 2) hI⟩
        · show FX9_as n σx _ _ = _
          unfold FX9_as
          rw [zlet_s, hasPerson_in X1.1.1 hj hc, zbd_s, zif_neg (by decide), li_3, isBelow_in hk (by decide), zbd_s, zif_neg (by decide), zgd_in hj6 (by decide), zcl (by omega), x0, zif_pos (nI_lt e (by omega))]
          rfl
        · show FX10_as n σm _ _ = _
          unfold FX10_as
          rw [zlet_s, isPerson_in M1.1.1 hj hc, zbd_s, zif_neg (by decide), li_2, show FX10_within n (zst σm 0 0 0) (nI k) 0 (nI 2) = some (1, zst σm 0 0 0) from within_in (a := 0) (by omega) (by omega) (by decide), zbd_s, zif_neg (by decide), zgd_in hj6 (by decide), zcl (by omega), m0, zif_pos (nI_lt e (by omega))]
          rfl
      · refine ⟨1, zst σx 0 10 0, zst σm 0 0 0, ?_, ?_, hR⟩
        · show FX9_as n σx _ _ = _
          unfold FX9_as
          rw [zlet_s, hasPerson_in X1.1.1 hj hc, zbd_s, zif_neg (by decide), li_3, isBelow_in hk (by decide), zbd_s, zif_neg (by decide), zgd_in hj6 (by decide), zcl (by omega), x0, zif_neg (nI_nlt (by omega) (by omega))]
        · show FX10_as n σm _ _ = _
          unfold FX10_as
          rw [zlet_s, isPerson_in M1.1.1 hj hc, zbd_s, zif_neg (by decide), li_2, show FX10_within n (zst σm 0 0 0) (nI k) 0 (nI 2) = some (1, zst σm 0 0 0) from within_in (a := 0) (by omega) (by omega) (by decide), zbd_s, zif_neg (by decide), zgd_in hj6 (by decide), zcl (by omega), m0, zif_neg (nI_nlt (by omega) (by omega))]
    · refine ⟨-2, zst σx 0 10 0, zst σm 0 0 0, ?_, ?_, hR⟩
      · show FX9_as n σx _ _ = _
        unfold FX9_as
        rw [zlet_s, hasPerson_in X1.1.1 hj hc, zbd_s, zif_neg (by decide), li_3, isBelow_out ho2, zbd_s, zif_pos rfl]
      · show FX10_as n σm _ _ = _
        unfold FX10_as
        rw [zlet_s, isPerson_in M1.1.1 hj hc, zbd_s, zif_neg (by decide), within_out (show p2 < 0 ∨ 2 < p2 from z_cs' (b := 2) (by decide) ho2), zbd_s, zif_pos rfl]
  · refine ⟨-1, zst σx 0 10 0, zst σm 0 0 0, ?_, ?_, hR⟩
    · show FX9_as n σx _ _ = _
      unfold FX9_as
      rw [zlet_s, hasPerson_out X1.1.1 ho, zbd_s, zif_pos rfl]
    · show FX10_as n σm _ _ = _
      unfold FX10_as
      rw [zlet_s, isPerson_out M1.1.1 ho, zbd_s, zif_pos rfl]
/-- a body begins: the trace, on both sides -/
def tb (σ : zMem) (v : Int32) : zMem := zst σ 40 0 ((31 : Int32) * σ 40 0 + v)
def tm (σ : zMem) (v : Int32) : zMem := zst σ 0 1 ((31 : Int32) * σ 0 1 + v)
theorem begin_x {n : Nat} {σ : zMem} {v : Int32} : FX0_begin n 40 σ v = some (0, tb σ v) := rfl
theorem begins_x {n : Nat} {σ : zMem} {v : Int32} : FX10_begins n σ v = some (0, tm σ v) := rfl
theorem XB_tb {σ : zMem} {u : Nat → Nat → Nat} {c : Nat} {so sn : Nat → Nat} {ce : Nat → Nat → Int32} {rc : Nat} {rd : Nat → Nat → Nat} {qs br ft tr : Int32} (h : XB σ u c so sn ce rc rd qs br ft tr) (v : Int32) : XB (tb σ v) u c so sn ce rc rd qs br ft ((31 : Int32) * tr + v) := by
  have := XB_tr h ((31 : Int32) * σ 40 0 + v)
  rw [h.1.2.2.2.2] at this
  unfold tb
  rw [h.1.2.2.2.2]
  exact this
theorem MB_tm {σ : zMem} {u : Nat → Nat → Nat} {c : Nat} {so sn : Nat → Nat} {ce : Nat → Nat → Int32} {rc : Nat} {rd : Nat → Nat → Nat} {qs br ft tr : Int32} (h : MB σ u c so sn ce rc rd qs br ft tr) (v : Int32) : MB (tm σ v) u c so sn ce rc rd qs br ft ((31 : Int32) * tr + v) := by
  have := MB_tr h ((31 : Int32) * σ 0 1 + v)
  rw [h.1.2.2.2.2] at this
  unfold tm
  rw [h.1.2.2.2.2]
  exact this
theorem tell_e (n t : Nat) (p1 : Int32) : zE t (fun σ => FX9_tell n σ p1) (fun σ => FX10_tell n σ p1) := by
  intro σx σm h
  obtain ⟨u, c, so, sn, ce, rc, rd, qs, br, ft, tr, hX, hM, hI⟩ := id h
  have hc : c < 2 ^ 31 := by have := hI.2.1; omega
  rcases z_cs p1 c hc with ⟨j, hj, rfl⟩ | ho
  · have hj6 : j < 6 := by have := hI.2.1; omega
    have hA := (hI.1.1 j hj6).1
    have x0 : σx (13 + j) 0 = nI (u 0 j) := hX.2.1.1 j hj6 0 (by decide)
    have x3 : ∀ {σ : zMem} {tr' : Int32}, XB σ u c so sn ce rc rd qs br ft tr' → σ (13 + j) 3 = nI (u 3 j) := fun hh => hh.2.1.1 j hj6 3 (by decide)
    have m0 : σm 5 j = nI (u 0 j) := hM.2.1.1 j hj6 0 (by decide)
    have m3 : σm 8 j = nI (u 3 j) := hM.2.1.1 j hj6 3 (by decide)
    by_cases e1 : u 0 j = 1
    · have X1 := XB_tb (XB_tb hX 2) 1
      have M1 := MB_tm (MB_tm hM 2) 1
      refine ⟨nI (u 3 j) + 100, _, _, ?_, ?_, zR_of X1 M1 hI⟩
      · show FX9_tell n σx _ = _
        unfold FX9_tell
        rw [hasPerson_in hX.1.1 hj hc, zbd_s, zif_neg (by decide), zgd_in hj6 (by decide), zcl (by omega)]
        unfold FX0_telling
        rw [x0, zif_pos (by rw [e1]; rfl)]
        unfold FX0_twinTelling FX0_gooseherdTelling
        rw [begin_x, zbd_s, begin_x, zbd_s, zbd_s, zbd_s, zbd_s, x3 X1]
      · show FX10_tell n σm _ = _
        unfold FX10_tell
        rw [isPerson_in hM.1.1 hj hc, zbd_s, zif_neg (by decide), zgd_in hj6 (by decide), zgd_in hj6 (by decide), zcl (by omega), m0, m3, zif_pos (by rw [e1]; rfl), begins_x, zbd_s, begins_x, zbd_s]
    by_cases e2 : u 0 j = 2
    · have X1 := XB_tb (XB_tb (XB_tb hX 3) 2) 1
      have X2 := XB_tb X1 1
      have M1 := MB_tm (MB_tm (MB_tm (MB_tm hM 3) 2) 1) 1
      refine ⟨(nI (u 3 j) + 100) + nI (u 3 j), _, _, ?_, ?_, zR_of X2 M1 hI⟩
      · show FX9_tell n σx _ = _
        unfold FX9_tell
        rw [hasPerson_in hX.1.1 hj hc, zbd_s, zif_neg (by decide), zgd_in hj6 (by decide), zcl (by omega)]
        unfold FX0_telling
        rw [x0, zif_neg (by rw [e2]; decide), zif_pos (by rw [e2]; rfl)]
        unfold FX0_hermitTelling FX0_twinTelling FX0_gooseherdTelling
        rw [begin_x, zbd_s, begin_x, zbd_s, begin_x, zbd_s, zbd_s, zbd_s, begin_x, zbd_s, zbd_s, zbd_s, zbd_s, x3 X1, x3 X2]
      · show FX10_tell n σm _ = _
        unfold FX10_tell
        rw [isPerson_in hM.1.1 hj hc, zbd_s, zif_neg (by decide), zgd_in hj6 (by decide), zgd_in hj6 (by decide), zcl (by omega), m0, m3, zif_neg (by rw [e2]; decide), zif_pos (by rw [e2]; rfl), begins_x, zbd_s, begins_x, zbd_s, begins_x, zbd_s, begins_x, zbd_s]
        congr 2
        rw [li_2, pk_mul, show (100 : Int32) = nI 100 from rfl, nI_add, nI_add, nI_add]
        congr 1
        omega
    · have X1 := XB_tb hX 1
      have M1 := MB_tm hM 1
      refine ⟨nI (u 3 j), _, _, ?_, ?_, zR_of X1 M1 hI⟩
      · show FX9_tell n σx _ = _
        unfold FX9_tell
        rw [hasPerson_in hX.1.1 hj hc, zbd_s, zif_neg (by decide), zgd_in hj6 (by decide), zcl (by omega)]
        unfold FX0_telling
        rw [x0, zif_neg (show ¬ nI (u 0 j) = 1 from nI_ne (by omega) (by decide) e1), zif_neg (show ¬ nI (u 0 j) = 2 from nI_ne (by omega) (by decide) e2)]
        unfold FX0_gooseherdTelling
        rw [begin_x, zbd_s, zbd_s, zbd_s, x3 X1]
      · show FX10_tell n σm _ = _
        unfold FX10_tell
        rw [isPerson_in hM.1.1 hj hc, zbd_s, zif_neg (by decide), zgd_in hj6 (by decide), zgd_in hj6 (by decide), zcl (by omega), m0, m3, zif_neg (show ¬ nI (u 0 j) = 1 from nI_ne (by omega) (by decide) e1), zif_neg (show ¬ nI (u 0 j) = 2 from nI_ne (by omega) (by decide) e2), begins_x, zbd_s]
  · refine ⟨-1, σx, σm, ?_, ?_, zR_next h⟩
    · show FX9_tell n σx _ = _
      unfold FX9_tell
      rw [hasPerson_out hX.1.1 ho, zbd_s, zif_pos rfl]
    · show FX10_tell n σm _ = _
      unfold FX10_tell
      rw [isPerson_out hM.1.1 ho, zbd_s, zif_pos rfl]
theorem greet_e (n t : Nat) (p1 : Int32) : zE t (fun σ => FX9_greet n σ p1) (fun σ => FX10_greet n σ p1) := by
  intro σx σm h
  obtain ⟨u, c, so, sn, ce, rc, rd, qs, br, ft, tr, hX, hM, hI⟩ := id h
  have hc : c < 2 ^ 31 := by have := hI.2.1; omega
  rcases z_cs p1 c hc with ⟨j, hj, rfl⟩ | ho
  · have hj6 : j < 6 := by have := hI.2.1; omega
    have hA := (hI.1.1 j hj6).1
    have x0 : σx (13 + j) 0 = nI (u 0 j) := hX.2.1.1 j hj6 0 (by decide)
    have m0 : σm 5 j = nI (u 0 j) := hM.2.1.1 j hj6 0 (by decide)
    by_cases e2 : u 0 j = 2
    · have X1 := XB_tb hX 5
      have M1 := MB_tm hM 5
      refine ⟨40, _, _, ?_, ?_, zR_of X1 M1 hI⟩
      · show FX9_greet n σx _ = _
        unfold FX9_greet
        rw [hasPerson_in hX.1.1 hj hc, zbd_s, zif_neg (by decide), zgd_in hj6 (by decide), zcl (by omega)]
        unfold FX0_greeting
        rw [x0, zif_pos (by rw [e2]; rfl), begin_x, zbd_s, zbd_s]
      · show FX10_greet n σm _ = _
        unfold FX10_greet BX10_greet_26
        have m0' : tm σm 5 5 j = nI (u 0 j) := M1.2.1.1 j hj6 0 (by decide)
        rw [isPerson_in hM.1.1 hj hc, zbd_s, zif_neg (by decide), zgd_in hj6 (by decide), zcl (by omega), m0, zif_pos (by rw [e2]; rfl), begins_x, zbd_s, zgd_n hj6 (by decide), m0', zif_pos (by rw [e2]; rfl)]
    · have X1 := XB_tb hX 4
      have M1 := MB_tm hM 4
      refine ⟨nI (u 1 j), _, _, ?_, ?_, zR_of X1 M1 hI⟩
      · show FX9_greet n σx _ = _
        unfold FX9_greet
        have x1 : tb σx 4 (13 + j) 1 = nI (u 1 j) := X1.2.1.1 j hj6 1 (by decide)
        rw [hasPerson_in hX.1.1 hj hc, zbd_s, zif_neg (by decide), zgd_in hj6 (by decide), zcl (by omega)]
        unfold FX0_greeting
        rw [x0, zif_neg (show ¬ nI (u 0 j) = 2 from nI_ne (by omega) (by decide) e2), begin_x, zbd_s, zbd_s, x1]
      · show FX10_greet n σm _ = _
        unfold FX10_greet BX10_greet_26
        have m0' : tm σm 4 5 j = nI (u 0 j) := M1.2.1.1 j hj6 0 (by decide)
        have m1' : tm σm 4 6 j = nI (u 1 j) := M1.2.1.1 j hj6 1 (by decide)
        rw [isPerson_in hM.1.1 hj hc, zbd_s, zif_neg (by decide), zgd_in hj6 (by decide), zcl (by omega), m0, zif_neg (show ¬ nI (u 0 j) = 2 from nI_ne (by omega) (by decide) e2), begins_x, zbd_s, zgd_n hj6 (by decide), m0', zif_neg (show ¬ nI (u 0 j) = 2 from nI_ne (by omega) (by decide) e2), zgd_n hj6 (by decide), m1']
  · refine ⟨-1, σx, σm, ?_, ?_, zR_next h⟩
    · show FX9_greet n σx _ = _
      unfold FX9_greet
      rw [hasPerson_out hX.1.1 ho, zbd_s, zif_pos rfl]
    · show FX10_greet n σm _ = _
      unfold FX10_greet
      rw [isPerson_out hM.1.1 ho, zbd_s, zif_pos rfl]
