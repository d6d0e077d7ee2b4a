/-! ===== years on the reference's side, and both ===== -/
theorem mD_kn {c : Nat} {σ0 σ : zMem} {j : Nat} {v : Int32} (h : mD c σ0 σ) (hj : j < c) : mD c σ0 (zst σ 7 j v) := ⟨fun k hk => by rw [zst_n (by decide)]; exact h.1 k hk, fun o ho => by rw [zst_n (by omega)]; exact h.2.1 o ho, fun p hp => by rw [zst_n (by decide), zst_sn (by omega)]; exact h.2.2.1 p hp, fun p hp => by rw [zst_n (by decide), zst_n (by decide)]; exact h.2.2.2 p hp⟩
theorem mD_0 {c : Nat} {σ0 σ : zMem} {k : Nat} {v : Int32} (h : mD c σ0 σ) (hk : 8 ≤ k ∧ k ≠ 28) : mD c σ0 (zst σ 0 k v) := ⟨fun j hj => by rw [zst_sn (by omega)]; exact h.1 j hj, fun o ho => by rw [zst_n (by omega)]; exact h.2.1 o ho, fun p hp => by rw [zst_n (by decide), zst_n (by decide)]; exact h.2.2.1 p hp, fun p hp => by rw [zst_n (by decide), zst_n (by decide)]; exact h.2.2.2 p hp⟩
def mY (c : Nat) (σ0 σ : zMem) (s : yS) : Prop := mD c σ0 σ ∧ σ 0 5 = nI c ∧ mV σ s.1 ∧ σ 0 19 = s.2.1 ∧ σ 0 20 = s.2.2.1 ∧ σ 0 21 = s.2.2.2
theorem mY_ask {c : Nat} {σ0 σ : zMem} {s : yS} {j v : Nat} (h : mY c σ0 σ s) (hj : j < c) (h6 : c ≤ 6) : mY c σ0 (zst σ 6 j (nI v)) (up2 s.1 1 j v, s.2) := by
  obtain ⟨h1, h2, h3, h4, h5, h7⟩ := h
  refine ⟨mD_ask h1 hj, ?_, mV_up (f := 1) h3 (by decide) (by omega), ?_, ?_, ?_⟩
  · rw [zst_n (by omega)]; exact h2
  · rw [zst_n (by omega)]; exact h4
  · rw [zst_n (by omega)]; exact h5
  · rw [zst_n (by omega)]; exact h7
theorem mY_kn {c : Nat} {σ0 σ : zMem} {s : yS} {j v : Nat} (h : mY c σ0 σ s) (hj : j < c) (h6 : c ≤ 6) : mY c σ0 (zst σ 7 j (nI v)) (up2 s.1 2 j v, s.2) := by
  obtain ⟨h1, h2, h3, h4, h5, h7⟩ := h
  refine ⟨mD_kn h1 hj, ?_, mV_up (f := 2) h3 (by decide) (by omega), ?_, ?_, ?_⟩
  · rw [zst_n (by omega)]; exact h2
  · rw [zst_n (by omega)]; exact h4
  · rw [zst_n (by omega)]; exact h5
  · rw [zst_n (by omega)]; exact h7
theorem mY_0 {c : Nat} {σ0 σ : zMem} {s : yS} (h : mY c σ0 σ s) (k : Nat) (v : Int32) (hk : k = 19 ∨ k = 20 ∨ k = 21) : mY c σ0 (zst σ 0 k v) (s.1, (if k = 19 then v else s.2.1), (if k = 20 then v else s.2.2.1), (if k = 21 then v else s.2.2.2)) := by
  obtain ⟨h1, h2, h3, h4, h5, h6⟩ := h
  refine ⟨mD_0 h1 (by omega), ?_, mV_k h3 (fun o q1 q2 => zst_n (by omega)), ?_, ?_, ?_⟩
  · rw [zst_sn (by omega)]; exact h2
  · by_cases e : k = 19
    · subst e; exact zst_ss
    · rw [zst_sn (fun q => e q.symm)]; simp only [if_neg e]; exact h4
  · by_cases e : k = 20
    · subst e; exact zst_ss
    · rw [zst_sn (fun q => e q.symm)]; simp only [if_neg e]; exact h5
  · by_cases e : k = 21
    · subst e; exact zst_ss
    · rw [zst_sn (fun q => e q.symm)]; simp only [if_neg e]; exact h6
theorem does_x {n c T : Nat} {σ0 σ : zMem} {s : yS} {x y : Int32} (hn : 6 < n) (h0 : 0 < c) (h6 : c ≤ 6) (hT : T < 900) (hY : mY c σ0 σ s) (hb : uB s.1 T) (h : rpN c x y = 0) : match yst c s x y with
    | some s' => ∃ σ', FX10_does n σ x y = some (1, σ') ∧ mY c σ0 σ' s'
    | none => ∃ σ', FX10_does n σ x y = some (0, σ') ∧ mY c σ0 σ' s := by
  have hA : ∀ p, p < 6 → s.1 1 p < 2 ^ 31 := fun p hp => by have := (hb.1 p hp).2.1; omega
  have hf := fsN_lt (a := s.1 1) h0
  have fm := firstOf_x (n := n) hn hY.2.1 h6 h0 (fun p hp => hY.2.2.1.1 p hp 1 (by decide)) hA
  have hB1 := fun s' (q : yst c s x y = some s') => yst_B h0 h6 hb h q
  unfold yst at hB1 ⊢
  unfold FX10_does BX10_does_58
  rw [fm, zbd_s]
  rcases rp_cs h6 h with ⟨rfl, m, hm, rfl⟩ | ⟨rfl, p, hp, rfl⟩ | ⟨j, hj, rfl, v, hv, rfl⟩
  · rw [if_pos rfl] at hB1 ⊢
    have hb' := hB1 _ rfl
    rw [zcl (show m < 2 ^ 31 by omega)] at hb' ⊢
    dsimp only at hb' ⊢
    generalize fsN (s.1 1) c = j at hf fm hb'
    have hj6 : j < 6 := by omega
    have x1 : σ 6 j = nI (s.1 1 j) := hY.2.2.1.1 j hj6 1 (by decide)
    have Y1 := mY_ask hY (v := s.1 1 j + 1) hf h6
    have Y2 : mY c σ0 _ (up2 s.1 1 j (s.1 1 j + 1), s.2.1 + nI (brN (up2 s.1 1 j (s.1 1 j + 1)) j m), s.2.2.1, s.2.2.2) := mY_0 Y1 19 (s.2.1 + nI (brN (up2 s.1 1 j (s.1 1 j + 1)) j m)) (by omega)
    have Y3 : mY c σ0 _ (up2 s.1 1 j (s.1 1 j + 1), s.2.1 + nI (brN (up2 s.1 1 j (s.1 1 j + 1)) j m), s.2.2.1 ||| ((1 : Int32) <<< (nI j &&& 31)), s.2.2.2) := mY_0 Y2 20 (s.2.2.1 ||| ((1 : Int32) <<< (nI j &&& 31))) (by omega)
    have Y4 : ∀ d : Int32, mY c σ0 _ (up2 s.1 1 j (s.1 1 j + 1), s.2.1 + nI (brN (up2 s.1 1 j (s.1 1 j + 1)) j m), s.2.2.1 ||| ((1 : Int32) <<< (nI j &&& 31)), s.2.2.2 + d) := fun d => mY_0 Y3 21 (s.2.2.2 + d) (by omega)
    have k2 := (hb'.1 j hj6).2.2.1
    have m7 := Y3.2.2.1.1 j hj6 2 (by decide)
    rw [zif_pos (by decide), zif_neg (by decide), zgd_in hj6 (by decide), zgd_in hj6 (by decide), zlet_s, zcl (by omega), x1, nI_1, bringsOf_x Y1.2.2.1 hb' hj6 hm, zbd_s, Y1.2.2.2.1, zlet_s, Y2.2.2.2.2.1, zlet_s, zgd_n hj6 (by decide), m7, isOf_x k2 hm, zbd_s, Y3.2.2.2.2.2, zlet_s, zlet_s]
    by_cases e : (up2 s.1 1 j (s.1 1 j + 1) 2 j).testBit m = true
    · rw [if_pos e, zif_neg (by decide)]
      exact ⟨_, rfl, Y4 1⟩
    · rw [if_neg e, zif_pos rfl]
      exact ⟨_, rfl, Y4 0⟩
  · rw [if_neg (by decide), if_pos rfl, zcl (show p < 2 ^ 31 by omega), zif_pos (by decide), zif_pos rfl]
    have hp6 : p < 6 := by omega
    by_cases e : fsN (s.1 1) c = p
    · rw [if_pos e]
      have x1 : σ 6 p = nI (s.1 1 p) := hY.2.2.1.1 p hp6 1 (by decide)
      have Y1 := mY_ask hY (v := s.1 1 p + 1) hp h6
      rw [e, zgd_in hp6 (by decide), zif_pos rfl, zgd_in hp6 (by decide), zcl (by omega), zlet_s, x1, nI_1, zif_pos rfl]
      exact ⟨_, rfl, Y1⟩
    · rw [if_neg e]
      generalize fsN (s.1 1) c = j at hf fm e
      have hj6 : j < 6 := by omega
      have x1 : σ 6 j = nI (s.1 1 j) := hY.2.2.1.1 j hj6 1 (by decide)
      have ne : ¬ nI p = nI j := nI_ne (by omega) (by omega) (fun q => e q.symm)
      show ∃ σ', _ = some (0, σ') ∧ mY c σ0 σ' s
      rw [zgd_in hj6 (by decide), zif_neg ne, zgd_in hj6 (by decide), zcl (by omega), zlet_s, show σ 6 j + 0 = σ 6 j from Int32.add_zero _, zst_id, zif_neg ne]
      exact ⟨σ, rfl, hY⟩
  · have e0 : ¬ nI (10 + j) = 0 := nI_ne0 (by omega) (by omega)
    have e1 : ¬ nI (10 + j) = 1 := nI_ne (b := 1) (by omega) (by decide) (by omega)
    rw [if_neg e0, if_neg e1, y10, zcl (show j < 2 ^ 31 by omega), zcl (show v < 2 ^ 31 by omega), zif_neg (show ¬ nI (10 + j) < 10 from nI_nlt (b := 10) (by omega) (by omega))]
    by_cases e : j < c
    · rw [if_pos e]
      have Y1 := mY_kn hY (v := v) e h6
      rw [isPerson_in hY.2.1 e (by omega), zbd_s, zif_neg (by decide), zgd_n hj (by decide), zlet_s]
      exact ⟨_, rfl, Y1⟩
    · rw [if_neg e]
      show ∃ σ', _ = some (0, σ') ∧ mY c σ0 σ' s
      rw [isPerson_out hY.2.1 (Or.inr (nI_le (by omega) (by omega))), zbd_s, zif_pos rfl]
      exact ⟨σ, rfl, hY⟩
theorem goYear_lx {n c k b N : Nat} {σ0 : zMem} {ce : Nat → Nat → Int32} (hn : 6 < n) (h0 : 0 < c) (h6 : c ≤ 6) (hk : k < 4) (hce : ∀ i, i < 60 → σ0 3 (60 * k + i) = ce k i) (hb : b + 2 * N ≤ 60) (hp : ∀ i, i < N → rpN c (ce k (b + 2 * i)) (ce k (b + 2 * i + 1)) = 0) : ∀ f r a T (σ : zMem) (s : yS), a + r = N → r < f → T + r < 900 → uB s.1 T → mY c σ0 σ s → ∃ σ', zlp (LX10_goYear_17 n) f (σ, nI (60 * k + b), nI N, nI a) = some ((yrF c (fun i => ce k (b + 2 * i)) (fun i => ce k (b + 2 * i + 1)) r a s).2, σ') ∧ mY c σ0 σ' (yrF c (fun i => ce k (b + 2 * i)) (fun i => ce k (b + 2 * i + 1)) r a s).1 := by
  intro f
  induction f with
  | zero => intro r a T σ s _ h; omega
  | succ f ih =>
    intro r a T σ s hr hf hT hbs hY
    rw [zlp_n]
    show ∃ σ', LBX10_goYear_17 n _ σ (nI (60 * k + b)) (nI N) (nI a) = _ ∧ _
    unfold LBX10_goYear_17
    cases r with
    | zero => exact ⟨σ, by rw [zif_pos (nI_le (by omega) (by omega))]; rfl, hY⟩
    | succ r =>
      have c1 : σ 3 = σ0 3 := hY.1.2.1 3 (by omega)
      have i1 := hce (b + 2 * a) (by omega)
      have i2 := hce (b + 2 * a + 1) (by omega)
      rw [zif_neg (nI_ge (by omega) (by omega)), li_2, pk_mul, nI_add, nI_1 (60 * k + b + 2 * a), zgd_in (show 60 * k + b + 2 * a < 240 by omega) (by decide), zgd_in (show 60 * k + b + 2 * a + 1 < 240 by omega) (by decide), zcl (by omega), zcl (by omega), c1, show 60 * k + b + 2 * a = 60 * k + (b + 2 * a) by omega, i1, show 60 * k + (b + 2 * a) + 1 = 60 * k + (b + 2 * a + 1) by omega, i2, nI_1]
      have key := does_x hn h0 h6 (show T < 900 by omega) hY hbs (hp a (by omega))
      unfold yrF
      have hB := fun s' (q : yst c s (ce k (b + 2 * a)) (ce k (b + 2 * a + 1)) = some s') => yst_B h0 h6 hbs (hp a (by omega)) q
      revert key hB
      cases yst c s (ce k (b + 2 * a)) (ce k (b + 2 * a + 1)) with
      | some s' =>
        intro key hB
        obtain ⟨σ1, g1, g2⟩ := key
        rw [g1, zbd_s, zif_neg (by decide)]
        exact ih r (a + 1) (T + 1) σ1 s' (by omega) (by omega) (by omega) (hB s' rfl) g2
      | none =>
        intro key hB
        obtain ⟨σ1, g1, g2⟩ := key
        rw [g1, zbd_s, zif_pos rfl]
        exact ⟨σ1, rfl, g2⟩
theorem yrF_w {c : Nat} {xs ys : Nat → Int32} : ∀ r a s, (yrF c xs ys r a s).2 = -9 ∨ ∃ i, i < a + r ∧ (yrF c xs ys r a s).2 = nI i := by
  intro r
  induction r with
  | zero => intro a s; exact Or.inl rfl
  | succ r ih =>
    intro a s
    unfold yrF
    cases yst c s (xs a) (ys a) with
    | none => exact Or.inr ⟨a, by omega, rfl⟩
    | some s' =>
      rcases ih (a + 1) s' with h | ⟨i, h1, h2⟩
      · exact Or.inl h
      · exact Or.inr ⟨i, by omega, h2⟩
/-- what is told of a year -/
def tyN (c : Nat) (r : yS × Int32) (x : Int32) : Int32 := if x = 1 then r.2 else if r.2 = -9 then (if x = 0 then r.1.2.1 else if x = 2 then r.1.2.2.1 else if x = 3 then r.1.2.2.2 else if x = 4 then nI (fsN (r.1.1 1) c) else if (x - 10).toNatClampNeg < c then nI (r.1.1 1 (x - 10).toNatClampNeg) else -9) else -100 - r.2
theorem answer_x {n c T : Nat} {σ0 σ : zMem} {r : yS × Int32} {x : Int32} (hn : 6 < n) (h0 : 0 < c) (h6 : c ≤ 6) (hT : T < 1000) (hY : xY c σ0 σ r.1 r.2) (hb : uB r.1.1 T) (hx : (∃ j, j < 5 ∧ x = nI j) ∨ ∃ j, j < 6 ∧ x = nI (10 + j)) : FX8_answer n 28 19 σ x = some (tyN c r x, σ) := by
  have hA : ∀ p, p < 6 → r.1.1 1 p < 2 ^ 31 := fun p hp => by have := (hb.1 p hp).2.1; omega
  have fx := first_x (n := n) hn hY.2.1 h6 h0 (fun p hp => hY.2.2.1.1 p hp 1 (by decide)) hA
  unfold FX8_answer BX8_answer_84 tyN
  rw [hY.2.2.2.2.2.2]
  by_cases e1 : x = 1
  · rw [zif_pos e1, if_pos e1]
  rw [zif_neg e1, if_neg e1]
  by_cases e9 : r.2 = -9
  · rw [zif_pos e9, if_pos e9]
    by_cases q0 : x = 0
    · rw [zif_pos q0, if_pos q0, hY.2.2.2.1]
    rw [zif_neg q0, if_neg q0, zif_neg e1]
    by_cases q2 : x = 2
    · rw [zif_pos q2, if_pos q2, hY.2.2.2.2.1]
    rw [zif_neg q2, if_neg q2]
    by_cases q3 : x = 3
    · rw [zif_pos q3, if_pos q3, hY.2.2.2.2.2.1]
    rw [zif_neg q3, if_neg q3]
    by_cases q4 : x = 4
    · rw [zif_pos q4, if_pos q4, fx, zbd_s]
    rw [zif_neg q4, if_neg q4]
    rcases hx with ⟨j, hj, rfl⟩ | ⟨j, hj, rfl⟩
    · rcases (show j = 0 ∨ j = 1 ∨ j = 2 ∨ j = 3 ∨ j = 4 by omega) with rfl | rfl | rfl | rfl | rfl
      · exact absurd rfl q0
      · exact absurd rfl e1
      · exact absurd rfl q2
      · exact absurd rfl q3
      · exact absurd rfl q4
    · rw [y10, zcl (by omega)]
      by_cases e : j < c
      · rw [hasPerson_in hY.2.1 e (by omega), zbd_s, zif_neg (by decide), zgd_n hj (by decide), hY.2.2.1.1 j hj 1 (by decide), if_pos e]
      · rw [hasPerson_out hY.2.1 (Or.inr (nI_le (by omega) (by omega))), zbd_s, zif_pos rfl, if_neg e]
  · rw [zif_neg e9, if_neg e9]
theorem tellYear_x {n c T : Nat} {σ0 σ : zMem} {r : yS × Int32} {x : Int32} (hn : 6 < n) (h0 : 0 < c) (h6 : c ≤ 6) (hT : T < 1000) (hY : mY c σ0 σ r.1) (hb : uB r.1.1 T) (hx : (∃ j, j < 5 ∧ x = nI j) ∨ ∃ j, j < 6 ∧ x = nI (10 + j)) : ∃ v, FX10_tellYear n σ x = some (v, σ) ∧ (if x = 1 then r.2 else if r.2 = -9 then v else -100 - r.2) = tyN c r x := by
  have hA : ∀ p, p < 6 → r.1.1 1 p < 2 ^ 31 := fun p hp => by have := (hb.1 p hp).2.1; omega
  have fm := firstOf_x (n := n) hn hY.2.1 h6 h0 (fun p hp => hY.2.2.1.1 p hp 1 (by decide)) hA
  unfold FX10_tellYear BX10_tellYear_79 tyN
  rcases hx with ⟨j, hj, rfl⟩ | ⟨j, hj, rfl⟩
  · rw [zif_pos (show nI j < 10 from nI_lt (b := 10) (by omega) (by decide))]
    rcases (show j = 0 ∨ j = 1 ∨ j = 2 ∨ j = 3 ∨ j = 4 by omega) with rfl | rfl | rfl | rfl | rfl
    · rw [zif_pos (by decide), hY.2.2.2.1]
      exact ⟨_, rfl, by rw [if_neg (show ¬ nI 0 = 1 by decide), if_neg (show ¬ nI 0 = 1 by decide), if_pos (show nI 0 = 0 from rfl)]⟩
    · rw [zif_neg (by decide), zif_pos (by decide), fm, zbd_s]
      exact ⟨_, rfl, by rw [if_pos (show nI 1 = 1 from rfl), if_pos (show nI 1 = 1 from rfl)]⟩
    · rw [zif_neg (by decide), zif_neg (by decide), zif_pos (by decide), hY.2.2.2.2.1]
      exact ⟨_, rfl, by rw [if_neg (show ¬ nI 2 = 1 by decide), if_neg (show ¬ nI 2 = 1 by decide), if_neg (show ¬ nI 2 = 0 by decide), if_pos (show nI 2 = 2 from rfl)]⟩
    · rw [zif_neg (by decide), zif_neg (by decide), zif_neg (by decide), zif_pos (by decide), hY.2.2.2.2.2]
      exact ⟨_, rfl, by rw [if_neg (show ¬ nI 3 = 1 by decide), if_neg (show ¬ nI 3 = 1 by decide), if_neg (show ¬ nI 3 = 0 by decide), if_neg (show ¬ nI 3 = 2 by decide), if_pos (show nI 3 = 3 from rfl)]⟩
    · rw [zif_neg (by decide), zif_neg (by decide), zif_neg (by decide), zif_neg (by decide), fm, zbd_s]
      exact ⟨_, rfl, by rw [if_neg (show ¬ nI 4 = 1 by decide), if_neg (show ¬ nI 4 = 1 by decide), if_neg (show ¬ nI 4 = 0 by decide), if_neg (show ¬ nI 4 = 2 by decide), if_neg (show ¬ nI 4 = 3 by decide), if_pos (show nI 4 = 4 from rfl)]⟩
  · rw [zif_neg (show ¬ nI (10 + j) < 10 from nI_nlt (b := 10) (by omega) (by omega)), y10, zcl (by omega)]
    have d : ∀ q, q < 5 → ¬ nI (10 + j) = nI q := fun q hq => nI_ne (by omega) (by omega) (by omega)
    have d0 : ¬ nI (10 + j) = 0 := d 0 (by decide)
    have d1 : ¬ nI (10 + j) = 1 := d 1 (by decide)
    have d2 : ¬ nI (10 + j) = 2 := d 2 (by decide)
    have d3 : ¬ nI (10 + j) = 3 := d 3 (by decide)
    have d4 : ¬ nI (10 + j) = 4 := d 4 (by decide)
    simp only [if_neg d1, if_neg d0, if_neg d2, if_neg d3, if_neg d4]
    by_cases e : j < c
    · have m6 := hY.2.2.1.1 j hj 1 (by decide)
      rw [isPerson_in hY.2.1 e (by omega), zbd_s, zif_neg (by decide), zgd_n hj (by decide), show σ 6 j = nI (r.1.1 1 j) from m6, if_pos e]
      exact ⟨_, rfl, rfl⟩
    · rw [isPerson_out hY.2.1 (Or.inr (nI_le (by omega) (by omega))), zbd_s, zif_pos rfl, if_neg e]
      exact ⟨_, rfl, rfl⟩
theorem myear_r {n c k b N : Nat} {σ : zMem} {ce : Nat → Nat → Int32} {l2 l3 l5 l6 : Int32} (hc : σ 0 5 = nI c) (h0 : 0 < c) (h6 : c ≤ 6) (hk : k < 4) (hce : ∀ i, i < 60 → σ 3 (60 * k + i) = ce k i) (hb : b + 2 * N ≤ 60) : ∀ f r a, a + r = N → r < f → zlp (LX10_year_103 n) f (σ, nI k, l2, l3, nI N, l5, l6, nI (60 * k + b), nI a) = (if rqF c (fun i => ce k (b + 2 * i)) (fun i => ce k (b + 2 * i + 1)) r a = 0 then zbd (FX10_keep n σ) (fun _ σ2 => zbd (FX10_goYear n σ2 (nI (60 * k + b)) (nI N)) (fun r6 σ5 => zbd (FX10_tellYear n σ5 l5) (fun r9 σ8 => zbd (FX10_putBack n σ8) (fun _ σ11 => zif (l5 = 1) (some (r6, σ11)) (zif (r6 = -9) (some (r9, σ11)) (some (-100 - r6, σ11))))))) else some (rqF c (fun i => ce k (b + 2 * i)) (fun i => ce k (b + 2 * i + 1)) r a, σ)) := by
  intro f
  induction f with
  | zero => intro r a _ h; omega
  | succ f ih =>
    intro r a hr hf
    rw [zlp_n]
    show LBX10_year_103 n _ σ (nI k) l2 l3 (nI N) l5 l6 (nI (60 * k + b)) (nI a) = _
    unfold LBX10_year_103
    cases r with
    | zero => rw [zif_pos (nI_le (by omega) (by omega))]; exact (if_pos rfl).symm
    | succ r =>
      have i1 := hce (b + 2 * a) (by omega)
      have i2 := hce (b + 2 * a + 1) (by omega)
      rw [zif_neg (nI_ge (by omega) (by omega)), li_2, pk_mul, nI_add, nI_1 (60 * k + b + 2 * a), zgd_in (show 60 * k + b + 2 * a < 240 by omega) (by decide), zgd_in (show 60 * k + b + 2 * a + 1 < 240 by omega) (by decide), zcl (by omega), zcl (by omega), show 60 * k + b + 2 * a = 60 * k + (b + 2 * a) by omega, i1, show 60 * k + (b + 2 * a) + 1 = 60 * k + (b + 2 * a + 1) by omega, i2, refusesPair_x hc h0 h6, zbd_s, nI_1]
      have key := ih r (a + 1) (by omega) (by omega)
      by_cases e : rpN c (ce k (b + 2 * a)) (ce k (b + 2 * a + 1)) = 0
      · rw [show rqF c (fun i => ce k (b + 2 * i)) (fun i => ce k (b + 2 * i + 1)) (r + 1) a = rqF c (fun i => ce k (b + 2 * i)) (fun i => ce k (b + 2 * i + 1)) r (a + 1) from if_pos e, zif_pos e]
        exact key
      · rw [show rqF c (fun i => ce k (b + 2 * i)) (fun i => ce k (b + 2 * i + 1)) (r + 1) a = rpN c (ce k (b + 2 * a)) (ce k (b + 2 * a + 1)) from if_neg e, zif_neg e, if_neg e]
theorem year_e (n t : Nat) (hn : 6000 < n) (ht : t < 600) (p1 p2 p3 p4 p5 : Int32) : zE t (fun σ => FX9_year n σ p1 p2 p3 p4 p5) (fun σ => FX10_year n σ p1 p2 p3 p4 p5) := by
  intro σx σm h
  obtain ⟨u, c, so, sn, ce, rc, rd, qs, br, ft, tr, hX, hM, hI⟩ := id h
  have X1 := XB_ft hX 0
  have M1 := MB_ft hM 0
  have hR := zR_of X1 M1 hI
  have hR0 := zR_of' X1 M1 hI
  rcases z_cs p1 4 (by decide) with ⟨k, hk, rfl⟩ | ho
  · rcases z_cs p2 3 (by decide) with ⟨a, ha, rfl⟩ | ho2
    · rcases z_cs p4 21 (by decide) with ⟨N, hN, rfl⟩ | ho4
      · have a1 : ¬ nI N < 0 := nI_pos (by omega)
        have a2 : ¬ (20 : Int32) < nI N := nI_nlt (b := N) (a := 20) (by omega) (by decide)
        have b1 : FX10_within n (zst σm 0 0 0) (nI N) 0 20 = some (1, zst σm 0 0 0) := within_in (a := 0) (b := 20) (by omega) (by omega) (by decide)
        have pX : ∀ {R : Option (Int32 × zMem)}, FX8_tells n (zst σx 0 10 0) p5 = some (1, zst σx 0 10 0) → zbd (FX9_rowFault n (2 + k) (zst σx 0 10 0) (nI a) p3 (nI (2 * N))) (fun r18 σ17 => zif (r18 = 0) (zif (σ17 10 2 = 0) (some (-3, σ17)) (zbd (FX8_refusal n (2 + k) 10 σ17 p3 (nI N)) (fun r24 σ23 => zif (r24 = 0) (zbd (FX4_becomeLike n 19 10 σ23) (fun _ σ27 => zbd (FX8_go n 28 (2 + k) 19 σ27 p3 (nI N)) (fun _ σ31 => zbd (FX8_answer n 28 19 σ31 p5) (fun r35 σ34 => some (r35, σ34))))) (some (r24, σ23))))) (zbd (FX9_failed n σ17 r18) (fun r38 σ37 => some (r38, σ37)))) = R → FX9_year n σx (nI k) (nI a) p3 (nI N) p5 = R := by
          intro R ht hR
          unfold FX9_year
          rw [zlet_s, isSheet_in hk, zbd_s, zif_neg (by decide), isLane_in ha, zbd_s, zif_neg (by decide), zif_neg a1, zif_neg a2, ht, zbd_s, zif_neg (by decide), zgd_in hk (by decide), zcl (show k < 2 ^ 31 by omega), li_2, pk_mul]
          simp only [zgd_n hk (show 4 < 2 ^ 31 by decide)]
          exact hR
        have pM : ∀ {R : Option (Int32 × zMem)}, ((∃ j, j < 5 ∧ p5 = nI j) ∨ ∃ j, j < 6 ∧ p5 = nI (10 + j)) → zbd (FX10_against n (zst σm 0 0 0) (nI k) (nI a) p3 (nI (2 * N))) (fun r23 σ22 => zif (r23 = 0) (zif (σ22 0 5 = 0) (some (-3, σ22)) (zlp (LX10_year_103 n) n (σ22, nI k, nI a, p3, nI N, p5, r23, 60 * nI k + p3, 0))) (zbd (FX10_fails n σ22 r23) (fun r28 σ27 => some (r28, σ27)))) = R → FX10_year n σm (nI k) (nI a) p3 (nI N) p5 = R := by
          intro R hw hR
          unfold FX10_year BX10_year_57
          rw [zlet_s, misSheet_in hk, zbd_s, zif_neg (by decide), isSort_in ha, zbd_s, zif_neg (by decide), b1, zbd_s, zif_neg (by decide), li_2, pk_mul]
          rcases hw with ⟨j, hj, rfl⟩ | ⟨j, hj, rfl⟩
          · rw [show FX10_within n (zst σm 0 0 0) (nI j) 0 4 = some (1, zst σm 0 0 0) from within_in (a := 0) (b := 4) (by omega) (by omega) (by decide), zbd_s, zif_neg (by decide)]
            exact hR
          · rw [within_out (show nI (10 + j) < 0 ∨ 4 < nI (10 + j) from Or.inr (nI_lt (a := 4) (by omega) (by omega))), zbd_s, zif_pos rfl, wL_in hj, zbd_s, zif_neg (by decide)]
            exact hR
        by_cases hw : (∃ j, j < 5 ∧ p5 = nI j) ∨ ∃ j, j < 6 ∧ p5 = nI (10 + j)
        · have htl := tells_t (n := n) (σ := zst σx 0 10 0) hw
          have hs := hI.2.2.1 k hk
          have fX := rowFault_x (n := n) (i := p3) (m := nI (2 * N)) X1.2.2.1 hk ha hs.1
          have fM := against_x (n := n) (i := p3) (m := nI (2 * N)) M1.2.2.1 hk ha hs.1 (nI_pos (by omega))
          by_cases ef : rfN so sn k a p3 (nI (2 * N)) = 0
          · rw [ef] at fX fM
            by_cases ec : c = 0
            · refine ⟨-3, _, _, pX htl ?_, pM hw ?_, hR⟩
              · rw [fX, zbd_s, zif_pos rfl, X1.1.1, zif_pos (by rw [ec]; rfl)]
              · rw [fM, zbd_s, zif_pos rfl, M1.1.1, zif_pos (by rw [ec]; rfl)]
            · have h0 : 0 < c := by omega
              have h6 : c ≤ 6 := by have := hI.2.1; omega
              obtain ⟨b, N2, rfl, eN2, hbN⟩ := rfN_0 hs.2 ef
              have eN : N2 = 2 * N := ((nI_eq (by omega) (by omega)).mp eN2).symm
              subst eN
              have hbN : b + 2 * N ≤ 60 := by omega
              have hceX : ∀ i, i < 60 → zst σx 0 10 0 (2 + k + 4) i = ce k i := (X1.2.2.1 k hk).2.2.2
              have hceM : ∀ i, i < 60 → zst σm 0 0 0 3 (60 * k + i) = ce k i := (M1.2.2.1 k hk).2.2
              have rX : FX8_refusal n (2 + k) 10 (zst σx 0 10 0) (nI b) (nI N) = _ := refusal_lx X1.1.1 h0 h6 hk hceX hbN n N 0 (by omega) (by omega)
              have rM := myear_r (n := n) (l2 := nI a) (l3 := nI b) (l5 := p5) (l6 := 0) M1.1.1 h0 h6 hk hceM hbN n N 0 (by omega) (by omega)
              by_cases er : rqF c (fun i => ce k (b + 2 * i)) (fun i => ce k (b + 2 * i + 1)) N 0 = 0
              · rw [er] at rX
                rw [if_pos er] at rM
                have hp := rqF_0 N 0 er
                have hp : ∀ i, i < N → rpN c (ce k (b + 2 * i)) (ce k (b + 2 * i + 1)) = 0 := fun i hi => hp i (by omega) (by omega)
                obtain ⟨σ1, c1, c2, c3, c4, c5⟩ := become_x (n := n) (by omega) X1.2.1
                have Y0 : xY c (zst σx 0 10 0) (zst (zst (zst (zst σ1 28 0 0) 28 1 0) 28 2 0) 28 3 (-9)) (u, 0, 0, 0) (-9) := by
                  have e : ∀ o, o ≠ 28 → zst (zst (zst (zst σ1 28 0 0) 28 1 0) 28 2 0) 28 3 (-9) o = σ1 o := fun o ho => by rw [zst_n ho, zst_n ho, zst_n ho, zst_n ho]
                  refine ⟨fun o ho => by rw [e o (by omega)]; exact c2 o ho, by rw [e 19 (by decide), c4]; exact X1.1.1, uV_k c3 (fun o q1 q2 => e o (by omega)), ?_, ?_, ?_, zst_ss⟩
                  · rw [zst_sn (by decide), zst_sn (by decide), zst_sn (by decide), zst_ss]
                  · rw [zst_sn (by decide), zst_sn (by decide), zst_ss]
                  · rw [zst_sn (by decide), zst_ss]
                obtain ⟨σ2, g1, g2, g3⟩ := go_lx (n := n) (by omega) h0 h6 hk hceX hbN hp n N 0 (9 + t) _ (u, 0, 0, 0) (by omega) (by omega) (by omega) hI.1 Y0
                obtain ⟨σ3, k1, k2, k3⟩ := keep_x (n := n) (by omega) M1.1.1 h6
                have Z0 : mY c (zst σm 0 0 0) (zst (zst (zst σ3 0 19 0) 0 20 0) 0 21 0) (u, 0, 0, 0) := by
                  refine ⟨mD_0 (mD_0 (mD_0 k2 (by decide)) (by decide)) (by decide), ?_, mV_k M1.2.1 (fun o q1 q2 => by rw [zst_n (by omega), zst_n (by omega), zst_n (by omega), k3 o (by omega) (by omega)]), ?_, ?_, zst_ss⟩
                  · rw [zst_sn (by decide), zst_sn (by decide), zst_sn (by decide), k3 0 (by decide) (by decide)]; exact M1.1.1
                  · rw [zst_sn (by decide), zst_sn (by decide), zst_ss]
                  · rw [zst_sn (by decide), zst_ss]
                obtain ⟨σ4, d1, d2⟩ := goYear_lx (n := n) (by omega) h0 h6 hk hceM hbN hp n N 0 (9 + t) _ (u, 0, 0, 0) (by omega) (by omega) (by omega) hI.1 Z0
                generalize yrF c (fun i => ce k (b + 2 * i)) (fun i => ce k (b + 2 * i + 1)) N 0 (u, 0, 0, 0) = r at g2 g3 d1 d2
                have an := answer_x (n := n) (x := p5) (by omega) h0 h6 (show 9 + t + N < 1000 by omega) g2 g3 hw
                obtain ⟨v, t1, t2⟩ := tellYear_x (n := n) (x := p5) (r := r) (by omega) h0 h6 (show 9 + t + N < 1000 by omega) d2 g3 hw
                obtain ⟨σ5, f1, f2, f3⟩ := putBack_x (n := n) (by omega) d2.2.1 h6 d2.1
                refine ⟨tyN c r p5, σ2, σ5, pX htl ?_, pM hw ?_, zR_K hR0 g2.1 f2⟩
                · rw [fX, zbd_s, zif_pos rfl, X1.1.1, zif_neg (nI_ne0 h0 (by omega)), rX, zbd_s, zif_pos rfl, c1, zbd_s]
                  unfold FX8_go
                  rw [zlet_s, zlet_s, zlet_s, zlet_s, show zlp (LX8_go_24 n 28 (2 + k) 19) n (zst (zst (zst (zst σ1 28 0 0) 28 1 0) 28 2 0) 28 3 (-9), nI b, nI N, 0) = _ from g1, zbd_s, an, zbd_s]
                · rw [fM, zbd_s, zif_pos rfl, M1.1.1, zif_neg (nI_ne0 h0 (by omega)), z60, show zlp (LX10_year_103 n) n (zst σm 0 0 0, nI k, nI a, nI b, nI N, p5, 0, nI (60 * k + b), 0) = _ from rM, k1, zbd_s]
                  unfold FX10_goYear
                  rw [zlet_s, zlet_s, zlet_s, show zlp (LX10_goYear_17 n) n (zst (zst (zst σ3 0 19 0) 0 20 0) 0 21 0, nI (60 * k + b), nI N, 0) = _ from d1, zbd_s, t1, zbd_s, f1, zbd_s, ← t2]
                  by_cases q1 : p5 = 1
                  · rw [zif_pos q1, if_pos q1]
                  · rw [zif_neg q1, if_neg q1]
                    by_cases q2 : r.2 = -9
                    · rw [zif_pos q2, if_pos q2]
                    · rw [zif_neg q2, if_neg q2]
              · rw [if_neg er] at rM
                refine ⟨rqF c (fun i => ce k (b + 2 * i)) (fun i => ce k (b + 2 * i + 1)) N 0, _, _, pX htl ?_, pM hw ?_, hR⟩
                · rw [fX, zbd_s, zif_pos rfl, X1.1.1, zif_neg (nI_ne0 h0 (by omega)), rX, zbd_s, zif_neg er]
                · rw [fM, zbd_s, zif_pos rfl, M1.1.1, zif_neg (nI_ne0 h0 (by omega)), z60, show zlp (LX10_year_103 n) n (zst σm 0 0 0, nI k, nI a, nI b, nI N, p5, 0, nI (60 * k + b), 0) = _ from rM]
          · refine ⟨-10 - rfN so sn k a p3 (nI (2 * N)), _, _, pX htl ?_, pM hw ?_, zR_of (XB_ft X1 (rfN so sn k a p3 (nI (2 * N)))) (MB_ft M1 (rfN so sn k a p3 (nI (2 * N)))) hI⟩
            · rw [fX, zbd_s, zif_neg ef, failed_x, zbd_s]
            · rw [fM, zbd_s, zif_neg ef, fails_x, zbd_s]
        · have hw1 : p5 < 0 ∨ nI 5 ≤ p5 := (z_cs p5 5 (by decide)).resolve_left (fun q => hw (Or.inl q))
          have hw2 : p5 < 10 ∨ 16 ≤ p5 := (z_csL p5).resolve_left (fun q => hw (Or.inr q))
          refine ⟨-2, zst σx 0 10 0, zst σm 0 0 0, ?_, ?_, hR⟩
          · show FX9_year n σx _ _ _ _ _ = _
            unfold FX9_year
            rw [zlet_s, isSheet_in hk, zbd_s, zif_neg (by decide), isLane_in ha, zbd_s, zif_neg (by decide), zif_neg a1, zif_neg a2, tells_f hw1 hw2, zbd_s, zif_pos rfl]
          · show FX10_year n σm _ _ _ _ _ = _
            unfold FX10_year
            rw [zlet_s, misSheet_in hk, zbd_s, zif_neg (by decide), isSort_in ha, zbd_s, zif_neg (by decide), b1, zbd_s, zif_neg (by decide), within_out (show p5 < 0 ∨ 4 < p5 from z_cs' (b := 4) (by decide) hw1), zbd_s, zif_pos rfl, wL_out hw2, zbd_s, zif_pos rfl]
      · refine ⟨-2, zst σx 0 10 0, zst σm 0 0 0, ?_, ?_, hR⟩
        · show FX9_year n σx _ _ _ _ _ = _
          unfold FX9_year
          rw [zlet_s, isSheet_in hk, zbd_s, zif_neg (by decide), isLane_in ha, zbd_s, zif_neg (by decide)]
          by_cases q : p4 < 0
          · rw [zif_pos q]
          · rw [zif_neg q, zif_pos (show (20 : Int32) < p4 from Int32.lt_of_lt_of_le (nI_lt (a := 20) (b := 21) (by decide) (by decide)) (ho4.resolve_left q))]
        · show FX10_year n σm _ _ _ _ _ = _
          unfold FX10_year
          rw [zlet_s, misSheet_in hk, zbd_s, zif_neg (by decide), isSort_in ha, zbd_s, zif_neg (by decide), within_out (show p4 < 0 ∨ 20 < p4 from z_cs' (b := 20) (by decide) ho4), zbd_s, zif_pos rfl]
    · refine ⟨-2, zst σx 0 10 0, zst σm 0 0 0, ?_, ?_, hR⟩
      · show FX9_year n σx _ _ _ _ _ = _
        unfold FX9_year
        rw [zlet_s, isSheet_in hk, zbd_s, zif_neg (by decide), isLane_out ho2, zbd_s, zif_pos rfl]
      · show FX10_year n σm _ _ _ _ _ = _
        unfold FX10_year
        rw [zlet_s, misSheet_in hk, zbd_s, zif_neg (by decide), isSort_out ho2, zbd_s, zif_pos rfl]
  · refine ⟨-1, zst σx 0 10 0, zst σm 0 0 0, ?_, ?_, hR⟩
    · show FX9_year n σx _ _ _ _ _ = _
      unfold FX9_year
      rw [zlet_s, isSheet_out ho, zbd_s, zif_pos rfl]
    · show FX10_year n σm _ _ _ _ _ = _
      unfold FX10_year
      rw [zlet_s, misSheet_out ho, zbd_s, zif_pos rfl]
