/-! ===== bundles, and what single writes do to them ===== -/
def XB (σ : zMem) (u : Nat → Nat → Nat) (c : Nat) (so sn : Nat → Nat) (ce : Nat → Nat → Int32) (rc : Nat) (rd : Nat → Nat → Nat) (qs br ft tr : Int32) : Prop := xC σ c qs br ft tr ∧ uV 10 σ u ∧ xS σ so sn ce ∧ xR σ rc rd
def MB (σ : zMem) (u : Nat → Nat → Nat) (c : Nat) (so sn : Nat → Nat) (ce : Nat → Nat → Int32) (rc : Nat) (rd : Nat → Nat → Nat) (qs br ft tr : Int32) : Prop := mC σ c qs br ft tr ∧ mV σ u ∧ mS σ so sn ce ∧ mR σ rc rd
def IB (t : Nat) (u : Nat → Nat → Nat) (c : Nat) (so sn : Nat → Nat) (rc : Nat) (rd : Nat → Nat → Nat) : Prop := uB u (9 + t) ∧ (c = 0 ∨ 2 ≤ c ∧ c ≤ 6) ∧ (∀ k, k < 4 → so k ≤ 3 ∧ sn k ≤ 60) ∧ rc ≤ 8 ∧ ∀ q, q < rc → rd 0 q < 6 ∧ rd 1 q < 3 ∧ rd 2 q ≤ 200
theorem zR_of {t : Nat} {σx σm : zMem} {u : Nat → Nat → Nat} {c : Nat} {so sn : Nat → Nat} {ce : Nat → Nat → Int32} {rc : Nat} {rd : Nat → Nat → Nat} {qs br ft tr : Int32} (hX : XB σx u c so sn ce rc rd qs br ft tr) (hM : MB σm u c so sn ce rc rd qs br ft tr) (hI : IB t u c so sn rc rd) : zR (t + 1) σx σm := ⟨u, c, so, sn, ce, rc, rd, qs, br, ft, tr, hX, hM, uB_mono hI.1 (by omega), hI.2⟩
theorem zR_of' {t : Nat} {σx σm : zMem} {u : Nat → Nat → Nat} {c : Nat} {so sn : Nat → Nat} {ce : Nat → Nat → Int32} {rc : Nat} {rd : Nat → Nat → Nat} {qs br ft tr : Int32} (hX : XB σx u c so sn ce rc rd qs br ft tr) (hM : MB σm u c so sn ce rc rd qs br ft tr) (hI : IB t u c so sn rc rd) : zR t σx σm := ⟨u, c, so, sn, ce, rc, rd, qs, br, ft, tr, hX, hM, hI⟩
section ZB
variable {σ : zMem} {u : Nat → Nat → Nat} {c : Nat} {so sn : Nat → Nat} {ce : Nat → Nat → Int32} {rc : Nat} {rd : Nat → Nat → Nat} {qs br ft tr : Int32}
theorem XB_tr (h : XB σ u c so sn ce rc rd qs br ft tr) (v : Int32) : XB (zst σ 40 0 v) u c so sn ce rc rd qs br ft v := by
  obtain ⟨a1, a2, a3, a4⟩ := h
  refine ⟨⟨?_, ?_, ?_, ?_, ?_⟩, uV_k a2 (fun o h1 h2 => zst_n (by omega)), xS_k a3 (fun o h1 h2 => zst_n (by omega)), xR_k a4 (fun o h1 h2 => zst_n (by omega))⟩
  · rw [zst_n (by decide)]; exact a1.1
  · rw [zst_n (by decide)]; exact a1.2.1
  · rw [zst_n (by decide)]; exact a1.2.2.1
  · rw [zst_n (by decide)]; exact a1.2.2.2.1
  · rw [zst_s]; rfl
theorem XB_0 (h : XB σ u c so sn ce rc rd qs br ft tr) (k : Nat) (v : Int32) : XB (zst σ 0 k v) u c so sn ce rc rd (if k = 8 then v else qs) (if k = 9 then v else br) (if k = 10 then v else ft) tr := by
  obtain ⟨a1, a2, a3, a4⟩ := h
  refine ⟨⟨?_, ?_, ?_, ?_, ?_⟩, uV_k a2 (fun o h1 h2 => zst_n (by omega)), xS_k a3 (fun o h1 h2 => zst_n (by omega)), xR_k a4 (fun o h1 h2 => zst_n (by omega))⟩
  · rw [zst_n (by decide)]; exact a1.1
  · rw [zst_s]; unfold upd; by_cases e : k = 8
    · rw [if_pos e, if_pos e.symm]
    · rw [if_neg e, if_neg (fun q => e q.symm)]; exact a1.2.1
  · rw [zst_s]; unfold upd; by_cases e : k = 9
    · rw [if_pos e, if_pos e.symm]
    · rw [if_neg e, if_neg (fun q => e q.symm)]; exact a1.2.2.1
  · rw [zst_s]; unfold upd; by_cases e : k = 10
    · rw [if_pos e, if_pos e.symm]
    · rw [if_neg e, if_neg (fun q => e q.symm)]; exact a1.2.2.2.1
  · rw [zst_n (by decide)]; exact a1.2.2.2.2
theorem XB_ft (h : XB σ u c so sn ce rc rd qs br ft tr) (v : Int32) : XB (zst σ 0 10 v) u c so sn ce rc rd qs br v tr := XB_0 h 10 v
theorem XB_qs (h : XB σ u c so sn ce rc rd qs br ft tr) (v : Int32) : XB (zst σ 0 8 v) u c so sn ce rc rd v br ft tr := XB_0 h 8 v
theorem XB_br (h : XB σ u c so sn ce rc rd qs br ft tr) (v : Int32) : XB (zst σ 0 9 v) u c so sn ce rc rd qs v ft tr := XB_0 h 9 v
theorem XB_per (h : XB σ u c so sn ce rc rd qs br ft tr) {f j : Nat} (v : Nat) (hf : f < 4) (hj : j < 6) : XB (zst σ (13 + j) f (nI v)) (up2 u f j v) c so sn ce rc rd qs br ft tr := by
  obtain ⟨a1, a2, a3, a4⟩ := h
  exact ⟨xC_k a1 (fun o ho => zst_n (by omega)), uV_up a2 hf hj, xS_k a3 (fun o h1 h2 => zst_n (by omega)), xR_k a4 (fun o h1 h2 => zst_n (by omega))⟩
theorem XB_mat (h : XB σ u c so sn ce rc rd qs br ft tr) {j : Nat} (v : Nat) (hj : j < 3) : XB (zst σ 11 j (nI v)) (up2 u 4 j v) c so sn ce rc rd qs br ft tr := by
  obtain ⟨a1, a2, a3, a4⟩ := h
  exact ⟨xC_k a1 (fun o ho => zst_n (by omega)), uV_upW a2 hj, xS_k a3 (fun o h1 h2 => zst_n (by omega)), xR_k a4 (fun o h1 h2 => zst_n (by omega))⟩
theorem XB_K {σ' : zMem} (h : XB σ u c so sn ce rc rd qs br ft tr) (hx : xK σ σ') : XB σ' u c so sn ce rc rd qs br ft tr := by
  obtain ⟨a1, a2, a3, a4⟩ := h
  exact ⟨xC_k a1 (fun o ho => hx o (by omega)), uV_k a2 (fun o h1 h2 => hx o (by omega)), xS_k a3 (fun o h1 h2 => hx o (by omega)), xR_k a4 (fun o h1 h2 => hx o (by omega))⟩
theorem MB_0 (h : MB σ u c so sn ce rc rd qs br ft tr) (k : Nat) (v : Int32) (hk : k ≠ 5 ∧ k ≠ 28) : MB (zst σ 0 k v) u c so sn ce rc rd (if k = 6 then v else qs) (if k = 7 then v else br) (if k = 0 then v else ft) (if k = 1 then v else tr) := by
  obtain ⟨b1, b2, b3, b4⟩ := h
  refine ⟨⟨?_, ?_, ?_, ?_, ?_⟩, mV_k b2 (fun o h1 h2 => zst_n (by omega)), mS_k b3 (fun o h1 h2 => zst_n (by omega)), mR_k b4 ?_ (fun o h1 h2 => zst_n (by omega))⟩
  · rw [zst_s]; unfold upd; rw [if_neg (fun q => hk.1 q.symm)]; exact b1.1
  · rw [zst_s]; unfold upd; by_cases e : k = 6
    · rw [if_pos e, if_pos e.symm]
    · rw [if_neg e, if_neg (fun q => e q.symm)]; exact b1.2.1
  · rw [zst_s]; unfold upd; by_cases e : k = 7
    · rw [if_pos e, if_pos e.symm]
    · rw [if_neg e, if_neg (fun q => e q.symm)]; exact b1.2.2.1
  · rw [zst_s]; unfold upd; by_cases e : k = 0
    · rw [if_pos e, if_pos e.symm]
    · rw [if_neg e, if_neg (fun q => e q.symm)]; exact b1.2.2.2.1
  · rw [zst_s]; unfold upd; by_cases e : k = 1
    · rw [if_pos e, if_pos e.symm]
    · rw [if_neg e, if_neg (fun q => e q.symm)]; exact b1.2.2.2.2
  · rw [zst_s]; unfold upd; rw [if_neg (fun q => hk.2 q.symm)]
theorem MB_ft (h : MB σ u c so sn ce rc rd qs br ft tr) (v : Int32) : MB (zst σ 0 0 v) u c so sn ce rc rd qs br v tr := MB_0 h 0 v (by decide)
theorem MB_tr (h : MB σ u c so sn ce rc rd qs br ft tr) (v : Int32) : MB (zst σ 0 1 v) u c so sn ce rc rd qs br ft v := MB_0 h 1 v (by decide)
theorem MB_qs (h : MB σ u c so sn ce rc rd qs br ft tr) (v : Int32) : MB (zst σ 0 6 v) u c so sn ce rc rd v br ft tr := MB_0 h 6 v (by decide)
theorem MB_br (h : MB σ u c so sn ce rc rd qs br ft tr) (v : Int32) : MB (zst σ 0 7 v) u c so sn ce rc rd qs v ft tr := MB_0 h 7 v (by decide)
theorem MB_per (h : MB σ u c so sn ce rc rd qs br ft tr) {f j : Nat} (v : Nat) (hf : f < 4) (hj : j < 6) : MB (zst σ (5 + f) j (nI v)) (up2 u f j v) c so sn ce rc rd qs br ft tr := by
  obtain ⟨b1, b2, b3, b4⟩ := h
  exact ⟨mC_k b1 (zst_n (by omega)), mV_up b2 hf hj, mS_k b3 (fun o h1 h2 => zst_n (by omega)), mR_k b4 (by rw [zst_n (by omega)]) (fun o h1 h2 => zst_n (by omega))⟩
theorem MB_mat (h : MB σ u c so sn ce rc rd qs br ft tr) {j : Nat} (v : Nat) (hj : j < 3) : MB (zst σ 4 j (nI v)) (up2 u 4 j v) c so sn ce rc rd qs br ft tr := by
  obtain ⟨b1, b2, b3, b4⟩ := h
  exact ⟨mC_k b1 (zst_n (by omega)), mV_upW b2 hj, mS_k b3 (fun o h1 h2 => zst_n (by omega)), mR_k b4 (by rw [zst_n (by omega)]) (fun o h1 h2 => zst_n (by omega))⟩
theorem MB_K {σ' : zMem} (h : MB σ u c so sn ce rc rd qs br ft tr) (hm : mK σ σ') : MB σ' u c so sn ce rc rd qs br ft tr := by
  obtain ⟨b1, b2, b3, b4⟩ := h
  refine ⟨?_, mV_k b2 (fun o h1 h2 => hm.2 o (by omega)), mS_k b3 (fun o h1 h2 => hm.2 o (by omega)), mR_k b4 (hm.1 28 (by omega)) (fun o h1 h2 => hm.2 o (by omega))⟩
  unfold mC
  rw [hm.1 5 (by omega), hm.1 6 (by omega), hm.1 7 (by omega), hm.1 0 (by omega), hm.1 1 (by omega)]
  exact b1
theorem IB_up {t f j v : Nat} (h : IB t u c so sn rc rd) (hv : (f = 0 → v < 3) ∧ (f = 1 → v ≤ 10 + t) ∧ (f = 2 → v < 8) ∧ (f = 3 → v < 10) ∧ (f = 4 → v < 10)) : IB (t + 1) (up2 u f j v) c so sn rc rd := ⟨uB_up (uB_mono h.1 (by omega)) ⟨hv.1, fun e => by have := hv.2.1 e; omega, hv.2.2⟩, h.2⟩
end ZB
theorem fault_e (n t : Nat) : zE t (fun σ => FX9_fault n σ) (fun σ => FX10_fault n σ) := by
  intro σx σm h
  obtain ⟨u, c, so, sn, ce, rc, rd, qs, br, ft, tr, hX, hM, hI⟩ := id h
  refine ⟨ft, σx, σm, ?_, ?_, zR_next h⟩
  · show some (σx 0 10, σx) = _; rw [hX.1.2.2.2.1]
  · show some (σm 0 0, σm) = _; rw [hM.1.2.2.2.1]
theorem trace_e (n t : Nat) : zE t (fun σ => FX9_trace n σ) (fun σ => FX10_trace n σ) := by
  intro σx σm h
  obtain ⟨u, c, so, sn, ce, rc, rd, qs, br, ft, tr, hX, hM, hI⟩ := id h
  refine ⟨tr, σx, σm, ?_, ?_, zR_next h⟩
  · show some (σx 40 0, σx) = _; rw [hX.1.2.2.2.2]
  · show some (σm 0 1, σm) = _; rw [hM.1.2.2.2.2]
theorem many_e (n t : Nat) (p1 : Int32) : zE t (fun σ => FX9_many n σ p1) (fun σ => FX10_many n σ p1) := by
  intro σx σm h
  obtain ⟨u, c, so, sn, ce, rc, rd, qs, br, ft, tr, hX, hM, hI⟩ := id h
  by_cases e0 : p1 = 0
  · exact ⟨nI c, σx, σm, by show FX9_many n σx _ = _; unfold FX9_many; rw [zif_pos e0, hX.1.1], by show FX10_many n σm _ = _; unfold FX10_many; rw [zif_pos e0, hM.1.1], zR_next h⟩
  by_cases e1 : p1 = 1
  · exact ⟨qs, σx, σm, by show FX9_many n σx _ = _; unfold FX9_many; rw [zif_neg e0, zif_pos e1, hX.1.2.1], by show FX10_many n σm _ = _; unfold FX10_many; rw [zif_neg e0, zif_pos e1, hM.1.2.1], zR_next h⟩
  by_cases e2 : p1 = 2
  · exact ⟨br, σx, σm, by show FX9_many n σx _ = _; unfold FX9_many; rw [zif_neg e0, zif_neg e1, zif_pos e2, hX.1.2.2.1], by show FX10_many n σm _ = _; unfold FX10_many; rw [zif_neg e0, zif_neg e1, zif_pos e2, hM.1.2.2.1], zR_next h⟩
  by_cases e3 : p1 = 3
  · exact ⟨nI rc, σx, σm, by show FX9_many n σx _ = _; unfold FX9_many; rw [zif_neg e0, zif_neg e1, zif_neg e2, zif_pos e3, hX.2.2.2.1], by show FX10_many n σm _ = _; unfold FX10_many; rw [zif_neg e0, zif_neg e1, zif_neg e2, zif_pos e3, hM.2.2.2.1], zR_next h⟩
  · exact ⟨-2, σx, σm, by show FX9_many n σx _ = _; unfold FX9_many; rw [zif_neg e0, zif_neg e1, zif_neg e2, zif_neg e3], by show FX10_many n σm _ = _; unfold FX10_many; rw [zif_neg e0, zif_neg e1, zif_neg e2, zif_neg e3], zR_next h⟩
theorem z_cM (x : Int32) {c : Nat} : (∃ j, j < 3 ∧ 0 < c ∧ x = nI j) ∨ (c = 0 ∨ x < 0 ∨ nI 3 ≤ x) := by
  by_cases h0 : c = 0
  · exact Or.inr (Or.inl h0)
  · rcases z_cs x 3 (by decide) with ⟨j, hj, e⟩ | h
    · exact Or.inl ⟨j, hj, by omega, e⟩
    · exact Or.inr (Or.inr h)
theorem worth_e (n t : Nat) (p1 : Int32) : zE t (fun σ => FX9_worth n σ p1) (fun σ => FX10_worth n σ p1) := by
  intro σx σm h
  obtain ⟨u, c, so, sn, ce, rc, rd, qs, br, ft, tr, hX, hM, hI⟩ := id h
  have hc : c < 2 ^ 31 := by have := hI.2.1; omega
  rcases z_cM p1 (c := c) with ⟨j, hj, h0, rfl⟩ | ho
  · refine ⟨nI (u 4 j), σx, σm, ?_, ?_, zR_next h⟩
    · show FX9_worth n σx _ = _
      unfold FX9_worth
      have := hX.2.1.2 j hj
      rw [hasMatter_in hX.1.1 hj h0 hc, zbd_s, zif_neg (by decide), zgd_in hj (by decide), zcl (by omega), this]
    · show FX10_worth n σm _ = _
      unfold FX10_worth
      rw [isMatter_in hM.1.1 hj h0 hc, zbd_s, zif_neg (by decide), zgd_in hj (by decide), zcl (by omega), hM.2.1.2 j hj]
  · refine ⟨-1, σx, σm, ?_, ?_, zR_next h⟩
    · show FX9_worth n σx _ = _
      unfold FX9_worth
      rw [hasMatter_out hX.1.1 ho, zbd_s, zif_pos rfl]
    · show FX10_worth n σm _ = _
      unfold FX10_worth
      rw [isMatter_out hM.1.1 ho, zbd_s, zif_pos rfl]
theorem weigh_e (n t : Nat) (p1 p2 : Int32) : zE t (fun σ => FX9_weigh n σ p1 p2) (fun σ => FX10_weigh n σ p1 p2) := by
  intro σx σm h
  obtain ⟨u, c, so, sn, ce, rc, rd, qs, br, ft, tr, hX, hM, hI⟩ := id h
  have hc : c < 2 ^ 31 := by have := hI.2.1; omega
  rcases z_cM p1 (c := c) with ⟨j, hj, h0, rfl⟩ | ho
  · rcases z_cs p2 10 (by decide) with ⟨k, hk, rfl⟩ | ho2
    · refine ⟨nI (u 4 j), zst σx 11 j (nI k), zst σm 4 j (nI k), ?_, ?_, zR_of' (XB_mat hX k hj) (MB_mat hM k hj) (IB_up hI ⟨fun e => by omega, fun e => by omega, fun e => by omega, fun e => by omega, fun _ => hk⟩)⟩
      · show FX9_weigh n σx _ _ = _
        unfold FX9_weigh
        have := hX.2.1.2 j hj
        rw [hasMatter_in hX.1.1 hj h0 hc, zbd_s, zif_neg (by decide), li_10, isBelow_in hk (by decide), zbd_s, zif_neg (by decide), zgd_in hj (by decide), zgd_in hj (by decide), zlet_s, zcl (by omega), this]
      · show FX10_weigh n σm _ _ = _
        unfold FX10_weigh
        rw [isMatter_in hM.1.1 hj h0 hc, zbd_s, zif_neg (by decide), li_0, li_9, within_in (by omega) (by omega) (by decide), zbd_s, zif_neg (by decide), ← li_0, zgd_in hj (by decide), zgd_in hj (by decide), zlet_s, zcl (by omega), hM.2.1.2 j hj]
    · refine ⟨-2, σx, σm, ?_, ?_, zR_next h⟩
      · show FX9_weigh n σx _ _ = _
        unfold FX9_weigh
        rw [hasMatter_in hX.1.1 hj h0 hc, zbd_s, zif_neg (by decide), li_10, isBelow_out ho2, zbd_s, zif_pos rfl]
      · show FX10_weigh n σm _ _ = _
        unfold FX10_weigh
        rw [isMatter_in hM.1.1 hj h0 hc, zbd_s, zif_neg (by decide), within_out (show p2 < 0 ∨ 9 < p2 from z_cs' (b := 9) (by decide) ho2), zbd_s, zif_pos rfl]
  · refine ⟨-1, σx, σm, ?_, ?_, zR_next h⟩
    · show FX9_weigh n σx _ _ = _
      unfold FX9_weigh
      rw [hasMatter_out hX.1.1 ho, zbd_s, zif_pos rfl]
    · show FX10_weigh n σm _ _ = _
      unfold FX10_weigh
      rw [isMatter_out hM.1.1 ho, zbd_s, zif_pos rfl]
theorem teach_e (n t : Nat) (p1 p2 : Int32) : zE t (fun σ => FX9_teach n σ p1 p2) (fun σ => FX10_teach n σ p1 p2) := by
  intro σx σm h
  obtain ⟨u, c, so, sn, ce, rc, rd, qs, br, ft, tr, hX, hM, hI⟩ := id h
  have hc : c < 2 ^ 31 := by have := hI.2.1; omega
  rcases z_cs p1 c hc with ⟨j, hj, rfl⟩ | ho
  · have hj6 : j < 6 := by have := hI.2.1; omega
    rcases z_cs p2 8 (by decide) with ⟨k, hk, rfl⟩ | ho2
    · refine ⟨nI (u 2 j), zst σx (13 + j) 2 (nI k), zst σm (5 + 2) j (nI k), ?_, ?_, zR_of' (XB_per hX k (by decide) hj6) (MB_per hM k (by decide) hj6) (IB_up hI ⟨fun e => by omega, fun e => by omega, fun e => by omega, fun e => by omega, fun e => by omega⟩)⟩
      · show FX9_teach n σx _ _ = _
        unfold FX9_teach
        have := hX.2.1.1 j hj6 2 (by decide)
        rw [hasPerson_in hX.1.1 hj hc, zbd_s, zif_neg (by decide), li_8, isBelow_in hk (by decide), zbd_s, zif_neg (by decide), zgd_in hj6 (by decide), zgd_in hj6 (by decide), zlet_s, zcl (by omega), this]
      · show FX10_teach n σm _ _ = _
        unfold FX10_teach
        have := hM.2.1.1 j hj6 2 (by decide)
        rw [isPerson_in hM.1.1 hj hc, zbd_s, zif_neg (by decide), li_0, li_7, within_in (by omega) (by omega) (by decide), zbd_s, zif_neg (by decide), ← li_0, zgd_in hj6 (by decide), zgd_in hj6 (by decide), zlet_s, zcl (by omega), this]
    · refine ⟨-2, σx, σm, ?_, ?_, zR_next h⟩
      · show FX9_teach n σx _ _ = _
        unfold FX9_teach
        rw [hasPerson_in hX.1.1 hj hc, zbd_s, zif_neg (by decide), li_8, isBelow_out ho2, zbd_s, zif_pos rfl]
      · show FX10_teach n σm _ _ = _
        unfold FX10_teach
        rw [isPerson_in hM.1.1 hj hc, zbd_s, zif_neg (by decide), within_out (show p2 < 0 ∨ 7 < p2 from z_cs' (b := 7) (by decide) ho2), zbd_s, zif_pos rfl]
  · refine ⟨-1, σx, σm, ?_, ?_, zR_next h⟩
    · show FX9_teach n σx _ _ = _
      unfold FX9_teach
      rw [hasPerson_out hX.1.1 ho, zbd_s, zif_pos rfl]
    · show FX10_teach n σm _ _ = _
      unfold FX10_teach
      rw [isPerson_out hM.1.1 ho, zbd_s, zif_pos rfl]
theorem sharpen_e (n t : Nat) (p1 p2 : Int32) : zE t (fun σ => FX9_sharpen n σ p1 p2) (fun σ => FX10_sharpen n σ p1 p2) := by
  intro σx σm h
  obtain ⟨u, c, so, sn, ce, rc, rd, qs, br, ft, tr, hX, hM, hI⟩ := id h
  have hc : c < 2 ^ 31 := by have := hI.2.1; omega
  rcases z_cs p1 c hc with ⟨j, hj, rfl⟩ | ho
  · have hj6 : j < 6 := by have := hI.2.1; omega
    rcases z_cs p2 10 (by decide) with ⟨k, hk, rfl⟩ | ho2
    · refine ⟨nI (u 3 j), zst σx (13 + j) 3 (nI k), zst σm (5 + 3) j (nI k), ?_, ?_, zR_of' (XB_per hX k (by decide) hj6) (MB_per hM k (by decide) hj6) (IB_up hI ⟨fun e => by omega, fun e => by omega, fun e => by omega, fun e => by omega, fun e => by omega⟩)⟩
      · show FX9_sharpen n σx _ _ = _
        unfold FX9_sharpen
        have := hX.2.1.1 j hj6 3 (by decide)
        rw [hasPerson_in hX.1.1 hj hc, zbd_s, zif_neg (by decide), li_10, isBelow_in hk (by decide), zbd_s, zif_neg (by decide), zgd_in hj6 (by decide), zgd_in hj6 (by decide), zlet_s, zcl (by omega), this]
      · show FX10_sharpen n σm _ _ = _
        unfold FX10_sharpen
        have := hM.2.1.1 j hj6 3 (by decide)
        rw [isPerson_in hM.1.1 hj hc, zbd_s, zif_neg (by decide), li_0, li_9, within_in (by omega) (by omega) (by decide), zbd_s, zif_neg (by decide), ← li_0, zgd_in hj6 (by decide), zgd_in hj6 (by decide), zlet_s, zcl (by omega), this]
    · refine ⟨-2, σx, σm, ?_, ?_, zR_next h⟩
      · show FX9_sharpen n σx _ _ = _
        unfold FX9_sharpen
        rw [hasPerson_in hX.1.1 hj hc, zbd_s, zif_neg (by decide), li_10, isBelow_out ho2, zbd_s, zif_pos rfl]
      · show FX10_sharpen n σm _ _ = _
        unfold FX10_sharpen
        rw [isPerson_in hM.1.1 hj hc, zbd_s, zif_neg (by decide), within_out (show p2 < 0 ∨ 9 < p2 from z_cs' (b := 9) (by decide) ho2), zbd_s, zif_pos rfl]
  · refine ⟨-1, σx, σm, ?_, ?_, zR_next h⟩
    · show FX9_sharpen n σx _ _ = _
      unfold FX9_sharpen
      rw [hasPerson_out hX.1.1 ho, zbd_s, zif_pos rfl]
    · show FX10_sharpen n σm _ _ = _
      unfold FX10_sharpen
      rw [isPerson_out hM.1.1 ho, zbd_s, zif_pos rfl]
