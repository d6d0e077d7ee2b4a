/-! ===== plan, the class's side ===== -/
def uI (u : Nat → Nat → Nat) (c : Nat) : Nat → Nat → Nat → Nat
  | 0 => u
  | s + 1 => up2 (uI u c s) 1 (fsN (uI u c s 1) c) (uI u c s 1 (fsN (uI u c s 1) c) + 1)
def who (u : Nat → Nat → Nat) (c s : Nat) : Nat := fsN (uI u c s 1) c
def mtN (cl : Nat → Int32) (p : Nat) : Nat := (cl p).toNatClampNeg % 3
def pW (u : Nat → Nat → Nat) (c : Nat) (cl : Nat → Int32) (s p : Nat) : Nat := brN u (who u c s) (mtN cl p)
theorem who_lt {u : Nat → Nat → Nat} {c s : Nat} (h0 : 0 < c) : who u c s < c := fsN_lt h0
theorem mtN_lt {cl : Nat → Int32} {p : Nat} : mtN cl p < 3 := Nat.mod_lt _ (by decide)
theorem brN_up1 {w : Nat → Nat → Nat} {f v p m : Nat} : brN (up2 w 1 f v) p m = brN w p m := by
  have e : ∀ a b, a ≠ 1 → up2 w 1 f v a b = w a b := fun a b h => if_neg (fun z => h z.1)
  unfold brN sayN
  rw [e 2 p (by decide), e 0 p (by decide), e 3 p (by decide), e 4 m (by decide)]
theorem brN_I {u : Nat → Nat → Nat} {c p m : Nat} : ∀ s, brN (uI u c s) p m = brN u p m
  | 0 => rfl
  | s + 1 => brN_up1.trans (brN_I s)
theorem uI_B {u : Nat → Nat → Nat} {c T : Nat} (h0 : 0 < c) (h6 : c ≤ 6) (hB : uB u T) : ∀ s, uB (uI u c s) (T + s)
  | 0 => hB
  | s + 1 => by
    have ih := uI_B h0 h6 hB s
    have hl := who_lt (u := u) (s := s) h0
    have h1 := (ih.1 (who u c s) (by omega)).2.1
    exact uB_up (uB_mono ih (by omega)) ⟨fun z => by omega, fun _ => by show uI u c s 1 (who u c s) + 1 ≤ _; omega, fun z => by omega, fun z => by omega, fun z => by omega⟩
theorem pW_le {u : Nat → Nat → Nat} {c T s p : Nat} {cl : Nat → Int32} (h0 : 0 < c) (h6 : c ≤ 6) (hB : uB u T) : pW u c cl s p ≤ 162 := brN_le hB (by have := who_lt (u := u) (s := s) h0; omega) mtN_lt
theorem bc_a : ∀ m, m < 128 → (FJ6_bitCount_0f7a4 0 (fun _ _ => 0) (nI m)).map (fun q => q.1) = some (nI (pop m)) := by decide +kernel
theorem bc_x {n m : Nat} {σ : zMem} (hm : m < 128) : FJ6_bitCount_0f7a4 n σ (nI m) = some (nI (pop m), σ) := by
  have h := bc_a m hm
  have e : FJ6_bitCount_0f7a4 n σ (nI m) = (FJ6_bitCount_0f7a4 0 (fun _ _ => 0) (nI m)).map (fun q => (q.1, σ)) := rfl
  rw [e]
  cases hq : FJ6_bitCount_0f7a4 0 (fun _ _ => 0) (nI m) with
  | none => rw [hq] at h; cases h
  | some q =>
    rw [hq] at h
    have h : some q.1 = some (nI (pop m)) := h
    show some (q.1, σ) = _
    rw [Option.some.inj h]
theorem om_x : ∀ m, m < 128 → ∀ p, p < 7 → (nI m ||| ((1 : Int32) <<< (nI p &&& (31 : Int32)))) = nI (om m p) := by decide +kernel
theorem bitX : ∀ m, m < 128 → ∀ p, p < 7 → ((nI m >>> (nI p &&& (31 : Int32))) &&& (1 : Int32)) = if m.testBit p = true then 1 else 0 := by decide +kernel
theorem all_x : ∀ L, L < 8 → ((1 : Int32) <<< (nI L &&& (31 : Int32))) - 1 = nI (2 ^ L - 1) := by decide +kernel
theorem om_128 {m p : Nat} (hm : m < 128) (hp : p < 7) : om m p < 128 := om_lt (L := 7) hm hp
theorem cmp1 {g s : Nat} (hg : g < 2 ^ 20) (hs : s < 2 ^ 20) : (nI g ≤ nI s - 1) ↔ ¬ s ≤ g := by
  cases s with
  | zero => exact ⟨fun z => absurd (Int32.le_trans (nI_pos' (by omega)) z) (by decide), fun z => absurd (Nat.zero_le g) z⟩
  | succ s =>
    rw [nI_pred, nI_leI (by omega) (by omega)]
    omega
def xP (u : Nat → Nat → Nat) (c : Nat) (cl : Nat → Int32) (L : Nat) (σ0 σ : zMem) (s : Nat) : Prop := xK σ0 σ ∧ σ 19 2 = nI c ∧ uV 19 σ (uI u c s) ∧ σ 29 4 = nI L ∧ ∀ q, q < s → σ 30 q = nI (mtN cl q) ∧ σ 31 q = nI (who u c q)
theorem xP_k {u : Nat → Nat → Nat} {c L s : Nat} {cl : Nat → Int32} {σ0 σ : zMem} {o j : Nat} {v : Int32} (h : xP u c cl L σ0 σ s) (ho : o = 32 ∨ o = 33) : xP u c cl L σ0 (zst σ o j v) s :=
  ⟨h.1.st (by omega), by rw [zst_n (by omega)]; exact h.2.1, uV_k h.2.2.1 (fun a h1 h2 => zst_n (by omega)), by rw [zst_n (by omega)]; exact h.2.2.2.1, fun q hq => by rw [zst_n (by omega), zst_n (by omega)]; exact h.2.2.2.2 q hq⟩
theorem make_8 {n c k b L T : Nat} {u : Nat → Nat → Nat} {cl ce : Nat → Int32} {σ0 : zMem} (hn : 6 < n) (h0 : 0 < c) (h6 : c ≤ 6) (hk : k < 4) (hb : b + L ≤ 60) (hL : L < 8) (hce : ∀ i, i < 60 → σ0 (2 + k + 4) i = ce i) (hcl : ∀ p, p < L → ce (b + p) = nI (mtN cl p)) (hB : uB u T) (hT : T < 1000) : ∀ f r s (σ : zMem), s + r = L → r < f → xP u c cl L σ0 σ s → ∃ σ', zlp (LX3_make_8 n 29 (2 + k) 19) f (σ, nI b, nI L, nI s) = zlp (LX3_make_91 n 29 (2 + k) 19) n (zst σ' 33 (2 ^ L - 1) 0, nI b, nI L, nI (2 ^ L - 1), nI (2 ^ L - 1) - 1) ∧ xP u c cl L σ0 σ' L := by
  intro f
  induction f with
  | zero => intro r s σ _ h; omega
  | succ f ih =>
    intro r s σ hr hf hX
    have p2 := p2_le hL
    have p3 : 0 < 2 ^ L := Nat.pow_pos (by decide)
    rw [zlp_n]
    show ∃ σ', LBX3_make_8 n 29 (2 + k) 19 _ σ (nI b) (nI L) (nI s) = _ ∧ _
    unfold LBX3_make_8
    cases r with
    | zero =>
      rw [show s = L by omega] at hX ⊢
      exact ⟨σ, by rw [zif_pos (nI_le (by omega) (by omega)), all_x L hL, zgd_in (show 2 ^ L - 1 < 128 by omega) (by decide), zlet_s, zcl (by omega)], hX⟩
    | succ r =>
      obtain ⟨x1, x2, x3, x4, x5⟩ := hX
      have hw := who_lt (u := u) (s := s) h0
      have hBs := uI_B h0 h6 hB s
      have v1 : ∀ (o j : Nat) (v : Int32) (τ : zMem), o = 30 ∨ o = 31 → uV 19 τ (uI u c s) → uV 19 (zst τ o j v) (uI u c s) := fun o j v τ ho h => uV_k h (fun a h1 h2 => zst_n (by omega))
      have w1 := v1 30 s (nI (mtN cl s)) _ (Or.inl rfl) x3
      have w2 := v1 31 s (nI (who u c s)) _ (Or.inr rfl) w1
      have fx : FX4_first n 19 (zst σ 30 s (nI (mtN cl s))) = some (nI (who u c s), zst σ 30 s (nI (mtN cl s))) := first_x hn (by rw [zst_n (by decide)]; exact x2) h6 h0 (fun p hp => w1.1 p hp 1 (by decide)) (fun p hp => by have := (hBs.1 p hp).2.1; omega)
      have a1 : zst (zst σ 30 s (nI (mtN cl s))) 31 s (nI (who u c s)) (19 + 3 + who u c s) 1 = nI (uI u c s 1 (who u c s)) := w2.1 _ (by omega) 1 (by decide)
      rw [zif_neg (nI_ge (by omega) (by omega)), nI_add, zgd_in (show b + s < 60 by omega) (by decide), zgd_in (show s < 7 by omega) (by decide), zlet_s, zcl (show s < 2 ^ 31 by omega), zcl (by omega), show (29 + 1 : Nat) = 30 from rfl, show (29 + 2 : Nat) = 31 from rfl, x1 (2 + k + 4) (by omega), hce (b + s) (by omega), hcl s (by omega), fx, zbd_s, zgd_n (show s < 7 by omega) (by decide), zlet_s, zgd_n (show s < 7 by omega) (by decide), zst_ss, zgd_in (show who u c s < 6 by omega) (by decide), zcl (by omega), a1, nI_1, nI_1, zlet_s]
      refine ih r (s + 1) _ (by omega) (by omega) ⟨((x1.st (by omega)).st (by omega)).st (by omega), ?_, uV_up w2 (by decide) (by omega), ?_, fun q hq => ?_⟩
      · rw [zst_n (by omega), zst_n (by omega), zst_n (by omega)]; exact x2
      · rw [zst_n (by omega), zst_n (by omega), zst_n (by omega)]; exact x4
      · rw [zst_n (show 30 ≠ 19 + 3 + who u c s by omega), zst_n (show 31 ≠ 19 + 3 + who u c s by omega), zst_n (show 30 ≠ 31 by decide)]
        by_cases e : q = s
        · rw [e, zst_ss, zst_ss]
          exact ⟨rfl, rfl⟩
        · rw [zst_sn (by omega), zst_sn (by omega), zst_n (show 31 ≠ 30 by decide)]
          exact x5 q (by omega)
theorem mostWith_x {n c L T m p B : Nat} {u : Nat → Nat → Nat} {cl : Nat → Int32} {σ0 σ : zMem} (h0 : 0 < c) (h6 : c ≤ 6) (hL : L < 8) (hB : uB u T) (hX : xP u c cl L σ0 σ L) (hm : m < 128) (hpm : pop m < L) (hp : p < L) (hv : σ 33 (om m p) = nI B) : FX3_mostWith n 29 19 σ (nI m) (nI p) = some (nI (pW u c cl (pop m) p + B), σ) := by
  have ho := om_128 hm (show p < 7 by omega)
  have hw := who_lt (u := u) (s := pop m) h0
  unfold FX3_mostWith
  rw [bc_x hm, zbd_s, zgd_in (show pop m < 7 by omega) (by decide), zgd_in (show p < 7 by omega) (by decide), zcl (by omega), zcl (by omega), show (29 + 1 : Nat) = 30 from rfl, show (29 + 2 : Nat) = 31 from rfl, show (29 + 4 : Nat) = 33 from rfl, (hX.2.2.2.2 _ hpm).2, (hX.2.2.2.2 _ hp).1, bringing_x hX.2.2.1 (uI_B h0 h6 hB L) (by omega) mtN_lt, zbd_s, om_x m hm p (by omega), zgd_in ho (by decide), zcl (by omega), hv, nI_add, brN_I]
  rfl
theorem next_x {n c L T m r : Nat} {u : Nat → Nat → Nat} {cl : Nat → Int32} {σ0 σ : zMem} (hn : 8 < n) (h0 : 0 < c) (h6 : c ≤ 6) (hL : L < 8) (hB : uB u T) (hX : xP u c cl L σ0 σ L) (hm : m < 2 ^ L) (hr : pop m + (r + 1) = L) (h33 : ∀ p, p < L → m.testBit p = false → σ 33 (om m p) = nI (bv (pW u c cl) L r (om m p))) : FX3_nextPlace n 29 19 σ (nI m) = some (nI (gp (pW u c cl) L r m), σ) := by
  have hm7 : m < 128 := Nat.lt_of_lt_of_le hm (p2_le hL)
  have hg : ∀ q, pW u c cl (pop m) q + bv (pW u c cl) L r (om m q) ≤ 1296 := fun q => by
    have h1 := pW_le (cl := cl) (s := pop m) (p := q) h0 h6 hB
    have h2 := bv_le (W := pW u c cl) (L := L) (B := 162) (fun s p => pW_le h0 h6 hB) r (om m q)
    omega
  have key : ∀ f k p, p + k = L → k < f → zlp (LX3_nextPlace_8 n 29 19) f (σ, nI m, nI (sc (fun q => !m.testBit q) (fun q => pW u c cl (pop m) q + bv (pW u c cl) L r (om m q)) p).1, nI (sc (fun q => !m.testBit q) (fun q => pW u c cl (pop m) q + bv (pW u c cl) L r (om m q)) p).2 - 1, nI p) = some (nI (gp (pW u c cl) L r m), σ) := by
    intro f
    induction f with
    | zero => intro k p _ h; omega
    | succ f ih =>
      intro k p hk hf
      have hs2 : (sc (fun q => !m.testBit q) (fun q => pW u c cl (pop m) q + bv (pW u c cl) L r (om m q)) p).2 ≤ 1297 := by
        rcases sc_is (fr := fun q => !m.testBit q) (g := fun q => pW u c cl (pop m) q + bv (pW u c cl) L r (om m q)) p with h | h
        · rw [h.2]; exact Nat.zero_le _
        · rw [h.2.2.1]; exact Nat.succ_le_succ (hg _)
      rw [zlp_n]
      show LBX3_nextPlace_8 n 29 19 _ σ (nI m) _ _ (nI p) = _
      unfold LBX3_nextPlace_8 BX3_nextPlace_31
      rw [hX.2.2.2.1]
      cases k with
      | zero =>
        rw [zif_pos (nI_le (by omega) (by omega)), show p = L by omega]
        rfl
      | succ k =>
        have ih := ih k (p + 1) (by omega) (by omega)
        rw [show sc (fun q => !m.testBit q) (fun q => pW u c cl (pop m) q + bv (pW u c cl) L r (om m q)) (p + 1) = if (!m.testBit p) = true ∧ (sc (fun q => !m.testBit q) (fun q => pW u c cl (pop m) q + bv (pW u c cl) L r (om m q)) p).2 ≤ pW u c cl (pop m) p + bv (pW u c cl) L r (om m p) then (p, pW u c cl (pop m) p + bv (pW u c cl) L r (om m p) + 1) else sc (fun q => !m.testBit q) (fun q => pW u c cl (pop m) q + bv (pW u c cl) L r (om m q)) p from rfl] at ih
        rw [zif_neg (nI_ge (by omega) (by omega)), bitX m hm7 p (by omega), nI_1]
        cases hb : m.testBit p with
        | true =>
          rw [if_neg (fun z => by have := z.1; rw [hb] at this; cases this)] at ih
          rw [if_pos rfl, zif_neg (by decide), zif_pos rfl]
          exact ih
        | false =>
          have mw := mostWith_x (n := n) h0 h6 hL hB hX hm7 (show pop m < L by omega) (show p < L by omega) (h33 p (by omega) hb)
          rw [if_neg (by decide), zif_pos rfl, zif_neg (by decide), mw, zbd_s, mw, zbd_s]
          have c1 := cmp1 (g := pW u c cl (pop m) p + bv (pW u c cl) L r (om m p)) (s := (sc (fun q => !m.testBit q) (fun q => pW u c cl (pop m) q + bv (pW u c cl) L r (om m q)) p).2) (by have := hg p; omega) (by omega)
          by_cases e : (sc (fun q => !m.testBit q) (fun q => pW u c cl (pop m) q + bv (pW u c cl) L r (om m q)) p).2 ≤ pW u c cl (pop m) p + bv (pW u c cl) L r (om m p)
          · rw [if_pos ⟨by rw [hb]; rfl, e⟩, nI_pred] at ih
            rw [zif_neg (fun z => c1.mp z e)]
            exact ih
          · rw [if_neg (fun z => e z.2)] at ih
            rw [zif_pos (c1.mpr e)]
            exact ih
  exact key n L 0 (by omega) (by omega)
def x33 (u : Nat → Nat → Nat) (c : Nat) (cl : Nat → Int32) (L : Nat) (σ : zMem) (j : Nat) : Prop := ∀ m, j ≤ m → m < 2 ^ L → σ 33 m = nI (bv (pW u c cl) L (L - pop m) m)
theorem next_y {n c L T m : Nat} {u : Nat → Nat → Nat} {cl : Nat → Int32} {σ0 σ : zMem} (hn : 8 < n) (h0 : 0 < c) (h6 : c ≤ 6) (hL : L < 8) (hB : uB u T) (hX : xP u c cl L σ0 σ L) (hm : m < 2 ^ L) (hp : pop m < L) (h33 : x33 u c cl L σ (m + 1)) : FX3_nextPlace n 29 19 σ (nI m) = some (nI (gp (pW u c cl) L (L - 1 - pop m) m), σ) ∧ gp (pW u c cl) L (L - 1 - pop m) m < L ∧ m.testBit (gp (pW u c cl) L (L - 1 - pop m) m) = false ∧ σ 33 (om m (gp (pW u c cl) L (L - 1 - pop m) m)) = nI (bv (pW u c cl) L (L - 1 - pop m) (om m (gp (pW u c cl) L (L - 1 - pop m) m))) := by
  have hm7 : m < 128 := Nat.lt_of_lt_of_le hm (p2_le hL)
  have k33 : ∀ p, p < L → m.testBit p = false → σ 33 (om m p) = nI (bv (pW u c cl) L (L - 1 - pop m) (om m p)) := fun p hp2 hb => by
    obtain ⟨o1, o2⟩ := om_f m hm7 p (by omega) hb
    rw [h33 (om m p) o2 (om_lt hm hp2), o1, show L - (pop m + 1) = L - 1 - pop m by omega]
  obtain ⟨g1, g2, -, -⟩ := gp_is (W := pW u c cl) (r := L - 1 - pop m) hL hm (by omega)
  exact ⟨next_x hn h0 h6 hL hB hX hm (by omega) k33, g1, g2, k33 _ g1 g2⟩
theorem make_91 {n c L T k b : Nat} {u : Nat → Nat → Nat} {cl : Nat → Int32} {σ0 : zMem} {l5 : Int32} (hn : 8 < n) (h0 : 0 < c) (h6 : c ≤ 6) (hL : L < 8) (hB : uB u T) : ∀ j f (σ : zMem), j < f → j < 2 ^ L → xP u c cl L σ0 σ L → x33 u c cl L σ j → ∃ σ', zlp (LX3_make_91 n 29 (2 + k) 19) f (σ, nI b, nI L, l5, nI j - 1) = zlp (LX3_make_131 n 29 (2 + k) 19) n (σ', nI b, nI L, l5, 0, 0) ∧ xP u c cl L σ0 σ' L ∧ x33 u c cl L σ' 0 := by
  intro j
  induction j with
  | zero =>
    intro f σ hf _ hX h33
    obtain ⟨f, rfl⟩ : ∃ g, f = g + 1 := ⟨f - 1, by omega⟩
    rw [zlp_n]
    show ∃ σ', LBX3_make_91 n 29 (2 + k) 19 _ σ (nI b) (nI L) l5 (nI 0 - 1) = _ ∧ _
    unfold LBX3_make_91
    exact ⟨σ, by rw [zif_pos (by decide)], hX, h33⟩
  | succ m ih =>
    intro f σ hf hj hX h33
    obtain ⟨f, rfl⟩ : ∃ g, f = g + 1 := ⟨f - 1, by omega⟩
    have p2 := p2_le hL
    rw [zlp_n, nI_pred]
    show ∃ σ', LBX3_make_91 n 29 (2 + k) 19 _ σ (nI b) (nI L) l5 (nI m) = _ ∧ _
    unfold LBX3_make_91
    have hp := (pop_f L hL m (by omega)).2 (by omega)
    obtain ⟨y1, y2, y3, y4⟩ := next_y hn h0 h6 hL hB hX (show m < 2 ^ L by omega) hp h33
    rw [zif_neg (nI_pos (by omega)), y1, zbd_s, mostWith_x h0 h6 hL hB hX (by omega) hp y2 y4, zbd_s, zgd_in (show m < 128 by omega) (by decide), zcl (by omega), zlet_s, show (29 + 4 : Nat) = 33 from rfl, show nI m + -1 = nI m - 1 from (Int32.sub_eq_add_neg (nI m) 1).symm, ← bv_s]
    refine ih f _ (by omega) (by omega) (xP_k hX (Or.inr rfl)) (fun q h1 h2 => ?_)
    by_cases e : q = m
    · rw [e, zst_ss, show L - pop m = L - 1 - pop m + 1 by omega]
    · rw [zst_sn (by omega)]
      exact h33 q (by omega) h2
theorem make_131 {n c L T k b : Nat} {u : Nat → Nat → Nat} {cl : Nat → Int32} {σ0 : zMem} {l5 : Int32} (hn : 8 < n) (h0 : 0 < c) (h6 : c ≤ 6) (hL : L < 8) (hB : uB u T) : ∀ f r s (σ : zMem), s + r = L → r < f → xP u c cl L σ0 σ L → x33 u c cl L σ 0 → (∀ q, q < s → σ 32 q = nI (gp (pW u c cl) L (L - 1 - q) (gu (pW u c cl) L q))) → ∃ σ', zlp (LX3_make_131 n 29 (2 + k) 19) f (σ, nI b, nI L, l5, nI (gu (pW u c cl) L s), nI s) = some (0, σ') ∧ xP u c cl L σ0 σ' L ∧ x33 u c cl L σ' 0 ∧ ∀ q, q < L → σ' 32 q = nI (gp (pW u c cl) L (L - 1 - q) (gu (pW u c cl) L q)) := by
  intro f
  induction f with
  | zero => intro r s σ _ h; omega
  | succ f ih =>
    intro r s σ hr hf hX h33 hq
    rw [zlp_n]
    show ∃ σ', LBX3_make_131 n 29 (2 + k) 19 _ σ (nI b) (nI L) l5 (nI (gu (pW u c cl) L s)) (nI s) = _ ∧ _
    unfold LBX3_make_131
    cases r with
    | zero =>
      rw [show s = L by omega] at hq ⊢
      exact ⟨σ, by rw [zif_pos (nI_le (by omega) (by omega))], hX, h33, hq⟩
    | succ r =>
      obtain ⟨-, d2, d3, -⟩ := g_dM (W := pW u c cl) hL s (by omega)
      obtain ⟨y1, y2, y3, y4⟩ := next_y hn h0 h6 hL hB hX d2 (by omega) (fun m h1 h2 => h33 m (by omega) h2)
      have hm7 := Nat.lt_of_lt_of_le d2 (p2_le hL)
      rw [d3] at y1 y2 y3 y4
      rw [zif_neg (nI_ge (by omega) (by omega)), y1, zbd_s, zgd_in (show s < 7 by omega) (by decide), zcl (by omega), zlet_s, zgd_n (show s < 7 by omega) (by decide), show (29 + 3 : Nat) = 32 from rfl, zst_ss, om_x _ hm7 _ (by omega), nI_1]
      refine ih r (s + 1) _ (by omega) (by omega) (xP_k hX (Or.inl rfl)) (fun m h1 h2 => by rw [zst_n (by decide)]; exact h33 m h1 h2) (fun q h1 => ?_)
      by_cases e : q = s
      · rw [e, zst_ss]
      · rw [zst_sn e]
        exact hq q (by omega)
/-- the whole of Planner.make, and what it answers -/
theorem make_x {n c k b L T : Nat} {u : Nat → Nat → Nat} {cl ce : Nat → Int32} {σ0 σ : zMem} (hn : 200 < n) (h0 : 0 < c) (h6 : c ≤ 6) (hk : k < 4) (hb : b + L ≤ 60) (hL : L < 8) (hce : ∀ i, i < 60 → σ0 (2 + k + 4) i = ce i) (hcl : ∀ p, p < L → ce (b + p) = nI (mtN cl p)) (hB : uB u T) (hT : T < 1000) (x1 : xK σ0 σ) (x2 : σ 19 2 = nI c) (x3 : uV 19 σ u) : ∃ σ', FX3_make n 29 (2 + k) 19 σ (nI b) (nI L) = some (0, σ') ∧ xK σ0 σ' ∧ σ' 29 4 = nI L ∧ σ' 33 0 = nI (bv (pW u c cl) L L 0) ∧ ∀ q, q < L → σ' 32 q = nI (gp (pW u c cl) L (L - 1 - q) (gu (pW u c cl) L q)) := by
  have p2 := p2_le hL
  have p3 : 0 < 2 ^ L := Nat.pow_pos (by decide)
  unfold FX3_make
  rw [zlet_s]
  obtain ⟨σ1, e1, X1⟩ := make_8 (n := n) (cl := cl) (by omega) h0 h6 hk hb hL hce hcl hB hT n L 0 (zst σ 29 4 (nI L)) (by omega) (by omega) ⟨x1.st (by omega), by rw [zst_n (by decide)]; exact x2, uV_k x3 (fun a h1 h2 => zst_n (by omega)), zst_ss, fun q hq => by omega⟩
  obtain ⟨σ2, e2, X2, Y2⟩ := make_91 (n := n) (k := k) (b := b) (l5 := nI (2 ^ L - 1)) (by omega) h0 h6 hL hB (2 ^ L - 1) n (zst σ1 33 (2 ^ L - 1) 0) (by omega) (by omega) (xP_k X1 (Or.inr rfl)) (fun m h1 h2 => by rw [show m = 2 ^ L - 1 by omega, zst_ss, pop_all L hL, Nat.sub_self]; rfl)
  obtain ⟨σ3, e3, X3, Y3, Z3⟩ := make_131 (n := n) (k := k) (b := b) (l5 := nI (2 ^ L - 1)) (by omega) h0 h6 hL hB n L 0 σ2 (by omega) (by omega) X2 Y2 (fun q hq => by omega)
  refine ⟨σ3, ?_, X3.1, X3.2.2.2.1, ?_, Z3⟩
  · rw [show zlp (LX3_make_8 n 29 (2 + k) 19) n (zst σ 29 4 (nI L), nI b, nI L, 0) = _ from e1, e2]
    exact e3
  · rw [Y3 0 (by omega) p3, show pop 0 = 0 from by decide, Nat.sub_zero]
