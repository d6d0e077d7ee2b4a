/-! ===== the trial province ===== -/
theorem become1 {n o q : Nat} {σ : zMem} (h : q ≠ o) : ∃ σ', FX2_becomeLike n o q σ = some (0, σ') ∧ (∀ a, a ≠ o → σ' a = σ a) ∧ ∀ f, f < 4 → σ' o f = σ q f := by
  refine ⟨_, rfl, fun a ha => ?_, fun f hf => ?_⟩
  · rw [zst_n ha, zst_n ha, zst_n ha, zst_n ha]
  · rcases (show f = 0 ∨ f = 1 ∨ f = 2 ∨ f = 3 by omega) with rfl | rfl | rfl | rfl
    · rw [zst_sn (by decide), zst_sn (by decide), zst_sn (by decide), zst_ss]
    · rw [zst_sn (by decide), zst_sn (by decide), zst_ss, zst_n h]
    · rw [zst_sn (by decide), zst_ss, zst_n h, zst_n h]
    · rw [zst_ss, zst_n h, zst_n h, zst_n h]
theorem become_lx {n : Nat} : ∀ f k i (σ : zMem), i + k = 6 → k < f → ∃ σ', zlp (LX4_becomeLike_24 n 19 10) f (σ, nI i) = some (0, σ') ∧ (∀ o, o < 22 + i ∨ 28 ≤ o → σ' o = σ o) ∧ ∀ p, i ≤ p → p < 6 → ∀ f, f < 4 → σ' (19 + 3 + p) f = σ (10 + 3 + p) f := by
  intro f
  induction f with
  | zero => intro k i σ _ h; omega
  | succ f ih =>
    intro k i σ hk hf
    rw [zlp_n]
    show ∃ σ', LBX4_becomeLike_24 n 19 10 _ σ (nI i) = _ ∧ _
    unfold LBX4_becomeLike_24
    cases k with
    | zero => exact ⟨σ, by rw [zif_pos (show (6 : Int32) ≤ nI i from nI_le (a := 6) (by omega) (by omega))], fun _ _ => rfl, fun p h1 h2 => by omega⟩
    | succ k =>
      obtain ⟨σ1, a1, a2, a3⟩ := become1 (n := n) (o := 19 + 3 + i) (q := 10 + 3 + i) (σ := σ) (by omega)
      rw [zif_neg (show ¬ (6 : Int32) ≤ nI i from nI_ge (b := 6) (by omega) (by omega)), zgd_in (show i < 6 by omega) (by decide), zgd_in (show i < 6 by omega) (by decide), zcl (by omega), a1, zbd_s, nI_1]
      obtain ⟨σ', h1, h2, h3⟩ := ih k (i + 1) σ1 (by omega) (by omega)
      refine ⟨σ', h1, fun o ho => by rw [h2 o (by omega), a2 o (by omega)], fun p p1 p2 g hg => ?_⟩
      by_cases e : p = i
      · subst e
        rw [h2 _ (by omega), a3 g hg]
      · rw [h3 p (by omega) p2 g hg, a2 _ (by omega)]
theorem become_x {n : Nat} {σ : zMem} {u : Nat → Nat → Nat} (hn : 6 < n) (hv : uV 10 σ u) : ∃ σ', FX4_becomeLike n 19 10 σ = some (0, σ') ∧ xK σ σ' ∧ uV 19 σ' u ∧ σ' 19 2 = σ 10 2 ∧ (∀ o, 28 ≤ o → σ' o = σ o) := by
  obtain ⟨σ', h1, h2, h3⟩ := become_lx (n := n) n 6 0 (zsa (zst σ 19 2 (σ 10 2)) (19 + 1) (va_cpy (zst σ 19 2 (σ 10 2) (10 + 1)) (zst σ 19 2 (σ 10 2) (19 + 1)) 0 0 3)) (by omega) (by omega)
  refine ⟨σ', ?_, fun o ho => by rw [h2 o (by omega), zsa_n (by omega), zst_n (by omega)], ⟨fun p hp f hf => ?_, fun m hm => ?_⟩, ?_, fun o ho => by rw [h2 o (by omega), zsa_n (by omega), zst_n (by omega)]⟩
  · unfold FX4_becomeLike
    rw [zlet_s, zgd_t (by decide), zlet_s]
    exact h1
  · rw [h3 p (by omega) hp f hf, zsa_n (by omega), zst_n (by omega)]
    exact hv.1 p hp f hf
  · rw [h2 _ (by omega), zsa_s, pk_cpy_in (by omega) (by omega), zst_n (by decide), show 0 + (m - 0) = m by omega]
    exact hv.2 m hm
  · rw [h2 19 (by omega), zsa_n (by decide), zst_ss]
/-! ===== readings that are so ===== -/
abbrev soP (u rd : Nat → Nat → Nat) (rc : Nat) : Prop := ∀ q, q < rc → brN u (rd 0 q) (rd 1 q) = rd 2 q
theorem allSo_lx {n w rc T : Nat} {σ : zMem} {u rd : Nat → Nat → Nat} (hr : xR σ rc rd) (h8 : rc ≤ 8) (hd : ∀ q, q < rc → rd 0 q < 6 ∧ rd 1 q < 3 ∧ rd 2 q ≤ 200) (hv : uV w σ u) (hb : uB u T) : ∀ f k q, q + k = rc → k < f → (∀ q', q' < q → brN u (rd 0 q') (rd 1 q') = rd 2 q') → zlp (LX5_allSo_2 n 36 w) f (σ, nI q) = some (if soP u rd rc then 1 else 0, σ) := by
  intro f
  induction f with
  | zero => intro k q _ h; omega
  | succ f ih =>
    intro k q hk hf hso
    rw [zlp_n]
    show LBX5_allSo_2 n 36 w _ σ (nI q) = _
    unfold LBX5_allSo_2
    rw [hr.1]
    cases k with
    | zero => rw [zif_pos (nI_le (by omega) (by omega)), if_pos (fun q' hq' => hso q' (by omega))]
    | succ k =>
      obtain ⟨d1, d2, d3⟩ := hd q (by omega)
      obtain ⟨r1, r2, r3⟩ := hr.2 q (by omega)
      have r1 : σ (36 + 1) q = nI (rd 0 q) := r1
      have r2 : σ (36 + 2) q = nI (rd 1 q) := r2
      have r3 : σ (36 + 3) q = nI (rd 2 q) := r3
      have hbr := brN_le hb d1 d2
      rw [zif_neg (nI_ge (by omega) (by omega)), zgd_in (show q < 8 by omega) (by decide), zgd_in (show q < 8 by omega) (by decide), zcl (by omega), r1, r2, bringing_x hv hb d1 d2, zbd_s, zgd_n (show q < 8 by omega) (by decide), r3, nI_1]
      by_cases e : brN u (rd 0 q) (rd 1 q) = rd 2 q
      · rw [zif_pos (by rw [e])]
        refine ih k (q + 1) (by omega) (by omega) (fun q' hq' => ?_)
        by_cases e2 : q' = q
        · rw [e2]; exact e
        · exact hso q' (by omega)
      · rw [zif_neg (nI_ne (by omega) (by omega) e), if_neg (fun z => e (z q (by omega)))]
theorem allSo_x {n w rc T : Nat} {σ : zMem} {u rd : Nat → Nat → Nat} (hn : 8 < n) (hr : xR σ rc rd) (h8 : rc ≤ 8) (hd : ∀ q, q < rc → rd 0 q < 6 ∧ rd 1 q < 3 ∧ rd 2 q ≤ 200) (hv : uV w σ u) (hb : uB u T) : FX5_allSo n 36 w σ = some (if soP u rd rc then 1 else 0, σ) := allSo_lx hr h8 hd hv hb n rc 0 (by omega) (by omega) (fun q' h => by omega)
theorem areSo_lx {n rc T : Nat} {σ : zMem} {u rd : Nat → Nat → Nat} (hr : mR σ rc rd) (h8 : rc ≤ 8) (hd : ∀ q, q < rc → rd 0 q < 6 ∧ rd 1 q < 3 ∧ rd 2 q ≤ 200) (hv : mV σ u) (hb : uB u T) : ∀ f k q, q + k = rc → k < f → (∀ q', q' < q → brN u (rd 0 q') (rd 1 q') = rd 2 q') → zlp (LX10_areSo_2 n) f (σ, nI q) = some (if soP u rd rc then 1 else 0, σ) := by
  intro f
  induction f with
  | zero => intro k q _ h; omega
  | succ f ih =>
    intro k q hk hf hso
    rw [zlp_n]
    show LBX10_areSo_2 n _ σ (nI q) = _
    unfold LBX10_areSo_2
    rw [hr.1]
    cases k with
    | zero => rw [zif_pos (nI_le (by omega) (by omega)), if_pos (fun q' hq' => hso q' (by omega))]
    | succ k =>
      obtain ⟨d1, d2, d3⟩ := hd q (by omega)
      obtain ⟨r1, r2, r3⟩ := hr.2 q (by omega)
      have hbr := brN_le hb d1 d2
      rw [zif_neg (nI_ge (by omega) (by omega)), zgd_in (show q < 8 by omega) (by decide), zgd_in (show q < 8 by omega) (by decide), zcl (by omega), r1, r2, bringsOf_x hv hb d1 d2, zbd_s, zgd_n (show q < 8 by omega) (by decide), r3, nI_1]
      by_cases e : brN u (rd 0 q) (rd 1 q) = rd 2 q
      · rw [zif_pos (by rw [e])]
        refine ih k (q + 1) (by omega) (by omega) (fun q' hq' => ?_)
        by_cases e2 : q' = q
        · rw [e2]; exact e
        · exact hso q' (by omega)
      · rw [zif_neg (nI_ne (by omega) (by omega) e), if_neg (fun z => e (z q (by omega)))]
theorem areSo_x {n rc T : Nat} {σ : zMem} {u rd : Nat → Nat → Nat} (hn : 8 < n) (hr : mR σ rc rd) (h8 : rc ≤ 8) (hd : ∀ q, q < rc → rd 0 q < 6 ∧ rd 1 q < 3 ∧ rd 2 q ≤ 200) (hv : mV σ u) (hb : uB u T) : FX10_areSo n σ = some (if soP u rd rc then 1 else 0, σ) := areSo_lx hr h8 hd hv hb n rc 0 (by omega) (by omega) (fun q' h => by omega)
/-- the set of values by which all readings are so -/
def poF (u : Nat → Nat → Nat) (fl j : Nat) (rd : Nat → Nat → Nat) (rc : Nat) : Nat → Int32
  | 0 => 0
  | v + 1 => if soP (up2 u fl j v) rd rc then poF u fl j rd rc v ||| ((1 : Int32) <<< (nI v &&& 31)) else poF u fl j rd rc v
theorem up2_up2 {u : Nat → Nat → Nat} {f j v w : Nat} : up2 (up2 u f j w) f j v = up2 u f j v := by
  funext a b
  unfold up2
  by_cases e : a = f ∧ b = j
  · rw [if_pos e, if_pos e]
  · rw [if_neg e, if_neg e, if_neg e]
theorem up2_id {u : Nat → Nat → Nat} {f j : Nat} : up2 u f j (u f j) = u := by
  funext a b
  unfold up2
  by_cases e : a = f ∧ b = j
  · rw [if_pos e, e.1, e.2]
  · rw [if_neg e]
theorem zst_zst {σ : zMem} {o k : Nat} {x y : Int32} : zst (zst σ o k y) o k x = zst σ o k x := by
  funext a b
  by_cases e : a = o
  · subst e
    by_cases e2 : b = k
    · subst e2; rw [zst_ss, zst_ss]
    · rw [zst_sn e2, zst_sn e2, zst_sn e2]
  · rw [zst_n e, zst_n e, zst_n e]
theorem zst_id {σ : zMem} {o k : Nat} : zst σ o k (σ o k) = σ := by
  funext a b
  by_cases e : a = o
  · subst e
    by_cases e2 : b = k
    · subst e2; rw [zst_ss]
    · rw [zst_sn e2]
  · rw [zst_n e]
theorem poss_lx {n j V fl T rc : Nat} {what : Int32} {u rd : Nat → Nat → Nat} {S : zMem → Nat → zMem} {σ0 : zMem} (hn : 8 < n) (hV : V ≤ 10) (hsup : ∀ σ v, FX4_suppose n 19 σ what (nI j) (nI v) = some (0, S σ v)) (hS : ∀ σ v w, uV 19 σ (up2 u fl j w) → uV 19 (S σ v) (up2 u fl j v)) (hK : ∀ σ v, xK σ (S σ v)) (hb : ∀ v, v < V → uB (up2 u fl j v) T) (hr : xR σ0 rc rd) (h8 : rc ≤ 8) (hd : ∀ q, q < rc → rd 0 q < 6 ∧ rd 1 q < 3 ∧ rd 2 q ≤ 200) : ∀ f k v (σ : zMem), v + k = V → k < f → xK σ0 σ → (∃ w, uV 19 σ (up2 u fl j w)) → ∃ σ', zlp (LX9_possible_17 n) f (σ, what, nI j, nI V, poF u fl j rd rc v, nI v) = some (poF u fl j rd rc V, σ') ∧ xK σ0 σ' := by
  intro f
  induction f with
  | zero => intro k v σ _ h; omega
  | succ f ih =>
    intro k v σ hk hf hx hw
    rw [zlp_n]
    show ∃ σ', LBX9_possible_17 n _ σ what (nI j) (nI V) (poF u fl j rd rc v) (nI v) = _ ∧ _
    unfold LBX9_possible_17
    cases k with
    | zero => exact ⟨σ, by rw [zif_pos (nI_le (by omega) (by omega)), show v = V by omega], hx⟩
    | succ k =>
      obtain ⟨w, hw⟩ := hw
      have x1 : xK σ0 (S σ v) := hx.tr (hK σ v)
      have v1 := hS σ v w hw
      have r1 : xR (S σ v) rc rd := xR_k hr (fun o h1 h2 => x1 o (by omega))
      rw [zif_neg (nI_ge (by omega) (by omega)), hsup, zbd_s, allSo_x hn r1 h8 hd v1 (hb v (by omega)), zbd_s, nI_1]
      by_cases e : soP (up2 u fl j v) rd rc
      · have key := ih k (v + 1) (S σ v) (by omega) (by omega) x1 ⟨v, v1⟩
        rw [show poF u fl j rd rc (v + 1) = poF u fl j rd rc v ||| ((1 : Int32) <<< (nI v &&& 31)) from if_pos e] at key
        rw [if_pos e, zif_neg (by decide)]
        exact key
      · have key := ih k (v + 1) (S σ v) (by omega) (by omega) x1 ⟨v, v1⟩
        rw [show poF u fl j rd rc (v + 1) = poF u fl j rd rc v from if_neg e] at key
        rw [if_neg e, zif_pos rfl]
        exact key
theorem poss_x {n j V fl T rc : Nat} {what : Int32} {u rd : Nat → Nat → Nat} {S : zMem → Nat → zMem} {σ0 : zMem} (hn : 20 < n) (hV : V ≤ 10) (hsup : ∀ σ v, FX4_suppose n 19 σ what (nI j) (nI v) = some (0, S σ v)) (hS : ∀ σ v w, uV 19 σ (up2 u fl j w) → uV 19 (S σ v) (up2 u fl j v)) (hK : ∀ σ v, xK σ (S σ v)) (hb : ∀ v, v < V → uB (up2 u fl j v) T) (hv : uV 10 σ0 u) (hr : xR σ0 rc rd) (h8 : rc ≤ 8) (hd : ∀ q, q < rc → rd 0 q < 6 ∧ rd 1 q < 3 ∧ rd 2 q ≤ 200) : ∃ σ', FX9_possible n σ0 what (nI j) (nI V) = some (poF u fl j rd rc V, σ') ∧ xK σ0 σ' := by
  obtain ⟨σ1, b1, b2, b3, b4, b5⟩ := become_x (n := n) (by omega) hv
  obtain ⟨σ', g1, g2⟩ := poss_lx (n := n) (by omega) hV hsup hS hK hb hr h8 hd n V 0 σ1 (by omega) (by omega) b2 ⟨u fl j, by rw [up2_id]; exact b3⟩
  refine ⟨σ', ?_, g2⟩
  unfold FX9_possible
  rw [b1, zbd_s]
  exact g1
theorem mknowings_lx {n j rc T : Nat} {u rd : Nat → Nat → Nat} {σ0 : zMem} (hn : 8 < n) (hj : j < 6) (hb : ∀ v, v < 8 → uB (up2 u 2 j v) T) (hv : mV σ0 u) (hr : mR σ0 rc rd) (h8 : rc ≤ 8) (hd : ∀ q, q < rc → rd 0 q < 6 ∧ rd 1 q < 3 ∧ rd 2 q ≤ 200) : ∀ f k v (σ : zMem), v + k = 8 → k < f → (∀ x, zst σ 7 j x = zst σ0 7 j x) → zlp (LX10_knowings_22 n) f (σ, nI j, σ0 7 j, poF u 2 j rd rc v, nI v) = some (poF u 2 j rd rc 8, σ0) := by
  intro f
  induction f with
  | zero => intro k v σ _ h; omega
  | succ f ih =>
    intro k v σ hk hf hz
    rw [zlp_n]
    show LBX10_knowings_22 n _ σ (nI j) (σ0 7 j) (poF u 2 j rd rc v) (nI v) = _
    unfold LBX10_knowings_22 BX10_knowings_53
    cases k with
    | zero => rw [zif_pos (show (7 : Int32) < nI v from nI_lt (a := 7) (by omega) (by omega)), zgd_in hj (by decide), zcl (by omega), zlet_s, hz, zst_id, show v = 8 by omega]
    | succ k =>
      have v1 : mV (zst σ0 7 j (nI v)) (up2 u 2 j v) := mV_up (f := 2) hv (by decide) hj
      have r1 : mR (zst σ0 7 j (nI v)) rc rd := mR_k hr (by rw [zst_n (by decide)]) (fun o h1 h2 => zst_n (by omega))
      have key := ih k (v + 1) (zst σ0 7 j (nI v)) (by omega) (by omega) (fun x => zst_zst)
      rw [zif_neg (show ¬ (7 : Int32) < nI v from nI_nlt (b := v) (a := 7) (by omega) (by decide)), zgd_in hj (by decide), zcl (by omega), zlet_s, hz, areSo_x hn r1 h8 hd v1 (hb v (by omega)), zbd_s, nI_1]
      by_cases e : soP (up2 u 2 j v) rd rc
      · rw [show poF u 2 j rd rc (v + 1) = poF u 2 j rd rc v ||| ((1 : Int32) <<< (nI v &&& 31)) from if_pos e] at key
        rw [if_pos e, zif_neg (by decide)]
        exact key
      · rw [show poF u 2 j rd rc (v + 1) = poF u 2 j rd rc v from if_neg e] at key
        rw [if_neg e, zif_pos rfl, Int32.or_zero]
        exact key
theorem knowings_e (n t : Nat) (hn : 6000 < n) (p1 : Int32) : zE t (fun σ => FX9_knowings n σ p1) (fun σ => FX10_knowings n σ p1) := by
  intro σx σm h
  obtain ⟨u, c, so, sn, ce, rc, rd, qs, br, ft, tr, hX, hM, hI⟩ := id h
  have hc : c < 2 ^ 31 := by have := hI.2.1; omega
  rcases z_cs p1 c hc with ⟨j, hj, rfl⟩ | ho
  · have hj6 : j < 6 := by have := hI.2.1; omega
    have hb : ∀ v, v < 8 → uB (up2 u 2 j v) (9 + t) := fun v hv => uB_up hI.1 ⟨fun e => by omega, fun e => by omega, fun e => by omega, fun e => by omega, fun e => by omega⟩
    obtain ⟨σ', g1, g2⟩ := poss_x (n := n) (j := j) (V := 8) (fl := 2) (what := 0) (S := fun σ v => zst σ (19 + 3 + j) 2 (nI v)) (by omega) (by decide) (fun σ v => by
      show FX4_suppose n 19 σ 0 (nI j) (nI v) = _
      unfold FX4_suppose
      rw [zif_pos rfl, zgd_in hj6 (by decide), zcl (by omega), zlet_s]) (fun σ v w hw => by have := uV_up (w := 19) (f := 2) (v := v) hw (by decide) hj6; rw [up2_up2] at this; exact this) (fun σ v => xK.rf.st (by omega)) hb hX.2.1 hX.2.2.2 hI.2.2.2.1 hI.2.2.2.2
    refine ⟨poF u 2 j rd rc 8, σ', σm, ?_, ?_, zR_K h g2 mK.rf⟩
    · show FX9_knowings n σx _ = _
      unfold FX9_knowings
      rw [hasPerson_in hX.1.1 hj hc, zbd_s, zif_neg (by decide), show FX9_possible n σx 0 (nI j) 8 = _ from g1, zbd_s]
    · show FX10_knowings n σm _ = _
      unfold FX10_knowings
      rw [isPerson_in hM.1.1 hj hc, zbd_s, zif_neg (by decide), zgd_in hj6 (by decide), zcl (by omega)]
      exact mknowings_lx (by omega) hj6 hb hM.2.1 hM.2.2.2 hI.2.2.2.1 hI.2.2.2.2 n 8 0 σm (by omega) (by omega) (fun x => rfl)
  · refine ⟨-1, σx, σm, ?_, ?_, zR_next h⟩
    · show FX9_knowings n σx _ = _
      unfold FX9_knowings
      rw [hasPerson_out hX.1.1 ho, zbd_s, zif_pos rfl]
    · show FX10_knowings n σm _ = _
      unfold FX10_knowings
      rw [isPerson_out hM.1.1 ho, zbd_s, zif_pos rfl]
theorem mwits_lx {n j rc T : Nat} {u rd : Nat → Nat → Nat} {σ0 : zMem} (hn : 8 < n) (hj : j < 6) (hb : ∀ v, v < 10 → uB (up2 u 3 j v) T) (hv : mV σ0 u) (hr : mR σ0 rc rd) (h8 : rc ≤ 8) (hd : ∀ q, q < rc → rd 0 q < 6 ∧ rd 1 q < 3 ∧ rd 2 q ≤ 200) : ∀ f k v (σ : zMem), v + k = 10 → k < f → (∀ x, zst σ 8 j x = zst σ0 8 j x) → zlp (LX10_wits_22 n) f (σ, nI j, σ0 8 j, poF u 3 j rd rc v, nI v) = some (poF u 3 j rd rc 10, σ0) := by
  intro f
  induction f with
  | zero => intro k v σ _ h; omega
  | succ f ih =>
    intro k v σ hk hf hz
    rw [zlp_n]
    show LBX10_wits_22 n _ σ (nI j) (σ0 8 j) (poF u 3 j rd rc v) (nI v) = _
    unfold LBX10_wits_22 BX10_wits_53
    cases k with
    | zero => rw [zif_pos (show (9 : Int32) < nI v from nI_lt (a := 9) (by omega) (by omega)), zgd_in hj (by decide), zcl (by omega), zlet_s, hz, zst_id, show v = 10 by omega]
    | succ k =>
      have v1 : mV (zst σ0 8 j (nI v)) (up2 u 3 j v) := mV_up (f := 3) hv (by decide) hj
      have r1 : mR (zst σ0 8 j (nI v)) rc rd := mR_k hr (by rw [zst_n (by decide)]) (fun o h1 h2 => zst_n (by omega))
      have key := ih k (v + 1) (zst σ0 8 j (nI v)) (by omega) (by omega) (fun x => zst_zst)
      rw [zif_neg (show ¬ (9 : Int32) < nI v from nI_nlt (b := v) (a := 9) (by omega) (by decide)), zgd_in hj (by decide), zcl (by omega), zlet_s, hz, areSo_x hn r1 h8 hd v1 (hb v (by omega)), zbd_s, nI_1]
      by_cases e : soP (up2 u 3 j v) rd rc
      · rw [show poF u 3 j rd rc (v + 1) = poF u 3 j rd rc v ||| ((1 : Int32) <<< (nI v &&& 31)) from if_pos e] at key
        rw [if_pos e, zif_neg (by decide)]
        exact key
      · rw [show poF u 3 j rd rc (v + 1) = poF u 3 j rd rc v from if_neg e] at key
        rw [if_neg e, zif_pos rfl, Int32.or_zero]
        exact key
theorem wits_e (n t : Nat) (hn : 6000 < n) (p1 : Int32) : zE t (fun σ => FX9_wits n σ p1) (fun σ => FX10_wits n σ p1) := by
  intro σx σm h
  obtain ⟨u, c, so, sn, ce, rc, rd, qs, br, ft, tr, hX, hM, hI⟩ := id h
  have hc : c < 2 ^ 31 := by have := hI.2.1; omega
  rcases z_cs p1 c hc with ⟨j, hj, rfl⟩ | ho
  · have hj6 : j < 6 := by have := hI.2.1; omega
    have hb : ∀ v, v < 10 → uB (up2 u 3 j v) (9 + t) := fun v hv => uB_up hI.1 ⟨fun e => by omega, fun e => by omega, fun e => by omega, fun e => by omega, fun e => by omega⟩
    obtain ⟨σ', g1, g2⟩ := poss_x (n := n) (j := j) (V := 10) (fl := 3) (what := 1) (S := fun σ v => zst σ (19 + 3 + j) 3 (nI v)) (by omega) (by decide) (fun σ v => by
      show FX4_suppose n 19 σ 1 (nI j) (nI v) = _
      unfold FX4_suppose
      rw [zif_neg (by decide), zif_pos rfl, zgd_in hj6 (by decide), zcl (by omega), zlet_s]) (fun σ v w hw => by have := uV_up (w := 19) (f := 3) (v := v) hw (by decide) hj6; rw [up2_up2] at this; exact this) (fun σ v => xK.rf.st (by omega)) hb hX.2.1 hX.2.2.2 hI.2.2.2.1 hI.2.2.2.2
    refine ⟨poF u 3 j rd rc 10, σ', σm, ?_, ?_, zR_K h g2 mK.rf⟩
    · show FX9_wits n σx _ = _
      unfold FX9_wits
      rw [hasPerson_in hX.1.1 hj hc, zbd_s, zif_neg (by decide), show FX9_possible n σx 1 (nI j) 10 = _ from g1, zbd_s]
    · show FX10_wits n σm _ = _
      unfold FX10_wits
      rw [isPerson_in hM.1.1 hj hc, zbd_s, zif_neg (by decide), zgd_in hj6 (by decide), zcl (by omega)]
      exact mwits_lx (by omega) hj6 hb hM.2.1 hM.2.2.2 hI.2.2.2.1 hI.2.2.2.2 n 10 0 σm (by omega) (by omega) (fun x => rfl)
  · refine ⟨-1, σx, σm, ?_, ?_, zR_next h⟩
    · show FX9_wits n σx _ = _
      unfold FX9_wits
      rw [hasPerson_out hX.1.1 ho, zbd_s, zif_pos rfl]
    · show FX10_wits n σm _ = _
      unfold FX10_wits
      rw [isPerson_out hM.1.1 ho, zbd_s, zif_pos rfl]
theorem mkinds_lx {n j rc T : Nat} {u rd : Nat → Nat → Nat} {σ0 : zMem} (hn : 8 < n) (hj : j < 6) (hb : ∀ v, v < 3 → uB (up2 u 0 j v) T) (hv : mV σ0 u) (hr : mR σ0 rc rd) (h8 : rc ≤ 8) (hd : ∀ q, q < rc → rd 0 q < 6 ∧ rd 1 q < 3 ∧ rd 2 q ≤ 200) : ∀ f k v (σ : zMem), v + k = 3 → k < f → (∀ x, zst σ 5 j x = zst σ0 5 j x) → zlp (LX10_kinds_22 n) f (σ, nI j, σ0 5 j, poF u 0 j rd rc v, nI v) = some (poF u 0 j rd rc 3, σ0) := by
  intro f
  induction f with
  | zero => intro k v σ _ h; omega
  | succ f ih =>
    intro k v σ hk hf hz
    rw [zlp_n]
    show LBX10_kinds_22 n _ σ (nI j) (σ0 5 j) (poF u 0 j rd rc v) (nI v) = _
    unfold LBX10_kinds_22 BX10_kinds_52
    cases k with
    | zero => rw [zif_pos (show (3 : Int32) ≤ nI v from nI_le (a := 3) (by omega) (by omega)), zgd_in hj (by decide), zcl (by omega), zlet_s, hz, zst_id, show v = 3 by omega]
    | succ k =>
      have v1 : mV (zst σ0 5 j (nI v)) (up2 u 0 j v) := mV_up (f := 0) hv (by decide) hj
      have r1 : mR (zst σ0 5 j (nI v)) rc rd := mR_k hr (by rw [zst_n (by decide)]) (fun o h1 h2 => zst_n (by omega))
      have key := ih k (v + 1) (zst σ0 5 j (nI v)) (by omega) (by omega) (fun x => zst_zst)
      rw [zif_neg (show ¬ (3 : Int32) ≤ nI v from nI_ge (b := 3) (by omega) (by omega)), zgd_in hj (by decide), zcl (by omega), zlet_s, hz, areSo_x hn r1 h8 hd v1 (hb v (by omega)), zbd_s, nI_1]
      by_cases e : soP (up2 u 0 j v) rd rc
      · rw [show poF u 0 j rd rc (v + 1) = poF u 0 j rd rc v ||| ((1 : Int32) <<< (nI v &&& 31)) from if_pos e] at key
        rw [if_pos e, zif_neg (by decide)]
        exact key
      · rw [show poF u 0 j rd rc (v + 1) = poF u 0 j rd rc v from if_neg e] at key
        rw [if_neg e, zif_pos rfl, Int32.or_zero]
        exact key
theorem kinds_e (n t : Nat) (hn : 6000 < n) (p1 : Int32) : zE t (fun σ => FX9_kinds n σ p1) (fun σ => FX10_kinds n σ p1) := by
  intro σx σm h
  obtain ⟨u, c, so, sn, ce, rc, rd, qs, br, ft, tr, hX, hM, hI⟩ := id h
  have hc : c < 2 ^ 31 := by have := hI.2.1; omega
  rcases z_cs p1 c hc with ⟨j, hj, rfl⟩ | ho
  · have hj6 : j < 6 := by have := hI.2.1; omega
    have hb : ∀ v, v < 3 → uB (up2 u 0 j v) (9 + t) := fun v hv => uB_up hI.1 ⟨fun e => by omega, fun e => by omega, fun e => by omega, fun e => by omega, fun e => by omega⟩
    obtain ⟨σ', g1, g2⟩ := poss_x (n := n) (j := j) (V := 3) (fl := 0) (what := 2) (S := fun σ v => zst σ (19 + 3 + j) 0 (nI v)) (by omega) (by decide) (fun σ v => by
      show FX4_suppose n 19 σ 2 (nI j) (nI v) = _
      unfold FX4_suppose
      rw [zif_neg (by decide), zif_neg (by decide), zif_pos rfl, zgd_in hj6 (by decide), zcl (by omega), zlet_s]) (fun σ v w hw => by have := uV_up (w := 19) (f := 0) (v := v) hw (by decide) hj6; rw [up2_up2] at this; exact this) (fun σ v => xK.rf.st (by omega)) hb hX.2.1 hX.2.2.2 hI.2.2.2.1 hI.2.2.2.2
    refine ⟨poF u 0 j rd rc 3, σ', σm, ?_, ?_, zR_K h g2 mK.rf⟩
    · show FX9_kinds n σx _ = _
      unfold FX9_kinds
      rw [hasPerson_in hX.1.1 hj hc, zbd_s, zif_neg (by decide), show FX9_possible n σx 2 (nI j) 3 = _ from g1, zbd_s]
    · show FX10_kinds n σm _ = _
      unfold FX10_kinds
      rw [isPerson_in hM.1.1 hj hc, zbd_s, zif_neg (by decide), zgd_in hj6 (by decide), zcl (by omega)]
      exact mkinds_lx (by omega) hj6 hb hM.2.1 hM.2.2.2 hI.2.2.2.1 hI.2.2.2.2 n 3 0 σm (by omega) (by omega) (fun x => rfl)
  · refine ⟨-1, σx, σm, ?_, ?_, zR_next h⟩
    · show FX9_kinds n σx _ = _
      unfold FX9_kinds
      rw [hasPerson_out hX.1.1 ho, zbd_s, zif_pos rfl]
    · show FX10_kinds n σm _ = _
      unfold FX10_kinds
      rw [isPerson_out hM.1.1 ho, zbd_s, zif_pos rfl]
theorem mworths_lx {n j rc T : Nat} {u rd : Nat → Nat → Nat} {σ0 : zMem} (hn : 8 < n) (hj : j < 3) (hb : ∀ v, v < 10 → uB (up2 u 4 j v) T) (hv : mV σ0 u) (hr : mR σ0 rc rd) (h8 : rc ≤ 8) (hd : ∀ q, q < rc → rd 0 q < 6 ∧ rd 1 q < 3 ∧ rd 2 q ≤ 200) : ∀ f k v (σ : zMem), v + k = 10 → k < f → (∀ x, zst σ 4 j x = zst σ0 4 j x) → zlp (LX10_worths_22 n) f (σ, nI j, σ0 4 j, poF u 4 j rd rc v, nI v) = some (poF u 4 j rd rc 10, σ0) := by
  intro f
  induction f with
  | zero => intro k v σ _ h; omega
  | succ f ih =>
    intro k v σ hk hf hz
    rw [zlp_n]
    show LBX10_worths_22 n _ σ (nI j) (σ0 4 j) (poF u 4 j rd rc v) (nI v) = _
    unfold LBX10_worths_22 BX10_worths_53
    cases k with
    | zero => rw [zif_pos (show (9 : Int32) < nI v from nI_lt (a := 9) (by omega) (by omega)), zgd_in hj (by decide), zcl (by omega), zlet_s, hz, zst_id, show v = 10 by omega]
    | succ k =>
      have v1 : mV (zst σ0 4 j (nI v)) (up2 u 4 j v) := mV_upW hv hj
      have r1 : mR (zst σ0 4 j (nI v)) rc rd := mR_k hr (by rw [zst_n (by decide)]) (fun o h1 h2 => zst_n (by omega))
      have key := ih k (v + 1) (zst σ0 4 j (nI v)) (by omega) (by omega) (fun x => zst_zst)
      rw [zif_neg (show ¬ (9 : Int32) < nI v from nI_nlt (b := v) (a := 9) (by omega) (by decide)), zgd_in hj (by decide), zcl (by omega), zlet_s, hz, areSo_x hn r1 h8 hd v1 (hb v (by omega)), zbd_s, nI_1]
      by_cases e : soP (up2 u 4 j v) rd rc
      · rw [show poF u 4 j rd rc (v + 1) = poF u 4 j rd rc v ||| ((1 : Int32) <<< (nI v &&& 31)) from if_pos e] at key
        rw [if_pos e, zif_neg (by decide)]
        exact key
      · rw [show poF u 4 j rd rc (v + 1) = poF u 4 j rd rc v from if_neg e] at key
        rw [if_neg e, zif_pos rfl, Int32.or_zero]
        exact key
theorem worths_e (n t : Nat) (hn : 6000 < n) (p1 : Int32) : zE t (fun σ => FX9_worths n σ p1) (fun σ => FX10_worths n σ p1) := by
  intro σx σm h
  obtain ⟨u, c, so, sn, ce, rc, rd, qs, br, ft, tr, hX, hM, hI⟩ := id h
  have hc : c < 2 ^ 31 := by have := hI.2.1; omega
  rcases z_cM p1 (c := c) with ⟨j, hj, h0, rfl⟩ | ho
  · have hj6 : j < 3 := hj
    have hb : ∀ v, v < 10 → uB (up2 u 4 j v) (9 + t) := fun v hv => uB_up hI.1 ⟨fun e => by omega, fun e => by omega, fun e => by omega, fun e => by omega, fun e => by omega⟩
    obtain ⟨σ', g1, g2⟩ := poss_x (n := n) (j := j) (V := 10) (fl := 4) (what := 3) (S := fun σ v => zst σ (19 + 1) j (nI v)) (by omega) (by decide) (fun σ v => by
      show FX4_suppose n 19 σ 3 (nI j) (nI v) = _
      unfold FX4_suppose
      rw [zif_neg (by decide), zif_neg (by decide), zif_neg (by decide), zgd_in hj6 (by decide), zcl (by omega), zlet_s]) (fun σ v w hw => by have := uV_upW (w := 19) (v := v) hw hj; rw [up2_up2] at this; exact this) (fun σ v => xK.rf.st (by omega)) hb hX.2.1 hX.2.2.2 hI.2.2.2.1 hI.2.2.2.2
    refine ⟨poF u 4 j rd rc 10, σ', σm, ?_, ?_, zR_K h g2 mK.rf⟩
    · show FX9_worths n σx _ = _
      unfold FX9_worths
      rw [hasMatter_in hX.1.1 hj h0 hc, zbd_s, zif_neg (by decide), show FX9_possible n σx 3 (nI j) 10 = _ from g1, zbd_s]
    · show FX10_worths n σm _ = _
      unfold FX10_worths
      rw [isMatter_in hM.1.1 hj h0 hc, zbd_s, zif_neg (by decide), zgd_in hj6 (by decide), zcl (by omega)]
      exact mworths_lx (by omega) hj6 hb hM.2.1 hM.2.2.2 hI.2.2.2.1 hI.2.2.2.2 n 10 0 σm (by omega) (by omega) (fun x => rfl)
  · refine ⟨-1, σx, σm, ?_, ?_, zR_next h⟩
    · show FX9_worths n σx _ = _
      unfold FX9_worths
      rw [hasMatter_out hX.1.1 ho, zbd_s, zif_pos rfl]
    · show FX10_worths n σm _ = _
      unfold FX10_worths
      rw [isMatter_out hM.1.1 ho, zbd_s, zif_pos rfl]
