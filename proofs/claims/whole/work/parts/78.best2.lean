/-! ===== best, the reference's side ===== -/
theorem modS {x N : Nat} : x - x / N * N = x % N := by
  have h := Nat.div_add_mod x N
  rw [Nat.mul_comm] at h
  omega
def gR (σ : zMem) (a b d : Nat) : zMem := zst (zst (zst σ 15 2 (nI d)) 15 1 (nI b)) 15 0 (nI a)
theorem gR_o {σ : zMem} {a b d o : Nat} (h : o ≠ 15) : gR σ a b d o = σ o := by unfold gR; rw [zst_n h, zst_n h, zst_n h]
theorem gR_0 {σ : zMem} {a b d : Nat} : gR σ a b d 15 0 = nI a := zst_ss
theorem gR_1 {σ : zMem} {a b d : Nat} : gR σ a b d 15 1 = nI b := by unfold gR; rw [zst_sn (by decide), zst_ss]
theorem gR_2 {σ : zMem} {a b d : Nat} : gR σ a b d 15 2 = nI d := by unfold gR; rw [zst_sn (by decide), zst_sn (by decide), zst_ss]
theorem cg_s {n f c x j : Nat} {σ : zMem} {l1 : Int32} (hc : σ 0 5 = nI c) (h6 : c ≤ 6) (hx : x < 343) (hj : j < 3) : zlp (LX10_canGive_4 n) (f + 1) (σ, l1, nI x, nI j) = zlp (LX10_canGive_4 n) f (zst σ 15 j (nI (x % (c + 1))), l1, nI (x / (c + 1)), nI j + -1) := by
  rw [zlp_n]
  show LBX10_canGive_4 n _ σ l1 (nI x) (nI j) = _
  unfold LBX10_canGive_4
  have hd := Nat.div_mul_le_self x (c + 1)
  rw [zif_neg (nI_pos (by omega)), hc, nI_1, zgd_t (nI_ne0 (by omega) (by omega)), zgd_in hj (by decide), zcl (by omega), pk_div (by omega) (by omega) (by omega), pk_mul, pk_sub hd, modS, zlet_s, zst_n (show (0 : Nat) ≠ 15 by decide), hc, nI_1, zgd_t (nI_ne0 (by omega) (by omega)), pk_div (by omega) (by omega) (by omega)]
theorem cg_e {n f : Nat} {σ : zMem} {l1 l2 : Int32} : zlp (LX10_canGive_4 n) (f + 1) (σ, l1, l2, -1) = zlp (LX10_canGive_39 n) n (σ, l1, l2, 0) := by
  rw [zlp_n]
  show LBX10_canGive_4 n _ σ l1 l2 (-1) = _
  unfold LBX10_canGive_4
  rw [zif_pos (by decide)]
theorem cg_47 {n f c a b i j : Nat} {σ : zMem} {k39 : zMem × Int32 × Int32 × Int32 → Option (Int32 × zMem)} {l1 l2 : Int32} (hc : σ 0 5 = nI c) (h6 : c ≤ 6) (ha : a ≤ c) (hb : b ≤ c) (hi : i < 3) (hj : j < i) (ea : σ 15 i = nI a) (eb : σ 15 j = nI b) : zlp (LX10_canGive_47 n k39) (f + 1) (σ, l1, l2, nI i, nI j) = if a = b ∧ a ≠ c then some (0, σ) else zlp (LX10_canGive_47 n k39) f (σ, l1, l2, nI i, nI (j + 1)) := by
  rw [zlp_n]
  show LBX10_canGive_47 n k39 _ σ l1 l2 (nI i) (nI j) = _
  unfold LBX10_canGive_47
  rw [zif_neg (nI_ge hj (by omega)), zgd_in hi (by decide), zgd_in (show j < 3 by omega) (by decide), zgd_in hi (by decide), zcl (by omega), zcl (by omega), ea, eb, hc, nI_1]
  by_cases e1 : a = b
  · rw [zif_pos (by rw [e1])]
    by_cases e2 : a = c
    · rw [zif_pos (nI_le (by omega) (by omega)), if_neg (fun z => z.2 e2)]
    · rw [zif_neg (nI_ge (by omega) (by omega)), if_pos ⟨e1, e2⟩]
  · rw [zif_neg (nI_ne (by omega) (by omega) e1), if_neg (fun z => e1 z.1)]
theorem cg_47e {n f i : Nat} {σ : zMem} {k39 : zMem × Int32 × Int32 × Int32 → Option (Int32 × zMem)} {l1 l2 : Int32} (hi : i < 3) : zlp (LX10_canGive_47 n k39) (f + 1) (σ, l1, l2, nI i, nI i) = k39 (σ, l1, l2, nI (i + 1)) := by
  rw [zlp_n]
  show LBX10_canGive_47 n k39 _ σ l1 l2 (nI i) (nI i) = _
  unfold LBX10_canGive_47
  rw [zif_pos (nI_le (by omega) (by omega)), nI_1]
theorem cg_39 {n f i : Nat} {σ : zMem} {l1 l2 : Int32} (hi : i < 3) : zlp (LX10_canGive_39 n) (f + 1) (σ, l1, l2, nI i) = zlp (LX10_canGive_47 n (zlp (LX10_canGive_39 n) f)) n (σ, l1, l2, nI i, nI 0) := by
  rw [zlp_n]
  show LBX10_canGive_39 n _ σ l1 l2 (nI i) = _
  unfold LBX10_canGive_39
  rw [zif_neg (show ¬ 3 ≤ nI i from nI_ge (b := 3) hi (by decide))]
  rfl
theorem cg_39e {n f : Nat} {σ : zMem} {l1 l2 : Int32} : zlp (LX10_canGive_39 n) (f + 1) (σ, l1, l2, nI 3) = some (1, σ) := by
  rw [zlp_n]
  show LBX10_canGive_39 n _ σ l1 l2 (nI 3) = _
  unfold LBX10_canGive_39
  rw [zif_pos (by decide)]
theorem canGive_x {n c i : Nat} {σ : zMem} (hn : 20 < n) (hc : σ 0 5 = nI c) (h6 : c ≤ 6) (hi : i < 343) : FX10_canGive n σ (nI i) = some (if twP c (i / (c + 1) / (c + 1) % (c + 1)) (i / (c + 1) % (c + 1)) (i % (c + 1)) then 0 else 1, gR σ (i / (c + 1) / (c + 1) % (c + 1)) (i / (c + 1) % (c + 1)) (i % (c + 1))) := by
  obtain ⟨N, rfl⟩ : ∃ N, n = N + 20 := ⟨n - 20, by omega⟩
  have q0 : c + 1 > 0 := by omega
  have q1 : i / (c + 1) ≤ i := Nat.div_le_self _ _
  have q2 : i / (c + 1) / (c + 1) ≤ i / (c + 1) := Nat.div_le_self _ _
  have m1 := Nat.mod_lt i q0
  have m2 := Nat.mod_lt (i / (c + 1)) q0
  have m3 := Nat.mod_lt (i / (c + 1) / (c + 1)) q0
  generalize hd : i % (c + 1) = d at *
  generalize hb : i / (c + 1) % (c + 1) = b at *
  generalize ha : i / (c + 1) / (c + 1) % (c + 1) = a at *
  unfold FX10_canGive
  have k1 : zlp (LX10_canGive_4 (N + 20)) (N + 20) (σ, nI i, nI i, 2) = zlp (LX10_canGive_39 (N + 20)) (N + 20) (gR σ a b d, nI i, nI (i / (c + 1) / (c + 1) / (c + 1)), nI 0) := by
    rw [show (2 : Int32) = nI 2 from rfl, cg_s hc h6 hi (by decide), show nI 2 + -1 = nI 1 from by decide, cg_s (c := c) (by rw [zst_n (by decide)]; exact hc) h6 (by omega) (by decide), show nI 1 + -1 = nI 0 from by decide, cg_s (c := c) (by rw [zst_n (by decide), zst_n (by decide)]; exact hc) h6 (by omega) (by decide), show nI 0 + -1 = -1 from by decide, cg_e, hd, hb, ha]
    rfl
  rw [k1]
  have c1 : gR σ a b d 0 5 = nI c := by rw [gR_o (by decide)]; exact hc
  rw [cg_39 (by decide), cg_47e (by decide), cg_39 (by decide), cg_47 c1 h6 (by omega) (by omega) (by decide) (by decide) gR_1 gR_0, cg_47e (by decide), cg_39 (by decide), cg_47 c1 h6 (by omega) (by omega) (by decide) (by decide) gR_2 gR_0, cg_47 c1 h6 (by omega) (by omega) (by decide) (by decide) gR_2 gR_1, cg_47e (by decide), cg_39e]
  unfold twP
  by_cases e1 : b = a ∧ b ≠ c
  · rw [if_pos e1, if_pos (by omega)]
  · rw [if_neg e1]
    by_cases e2 : d = a ∧ d ≠ c
    · rw [if_pos e2, if_pos (by omega)]
    · rw [if_neg e2]
      by_cases e3 : d = b ∧ d ≠ c
      · rw [if_pos e3, if_pos (by omega)]
      · rw [if_neg e3, if_neg (by omega)]
theorem tg_s {n f c a j g s T : Nat} {σ : zMem} {u : Nat → Nat → Nat} (hc : σ 0 5 = nI c) (h6 : c ≤ 6) (hv : mV σ u) (hb : uB u T) (hj : j < 3) (ha : a ≤ c) (ea : σ 15 j = nI a) : zlp (LX10_tryGiven_6 n) (f + 1) (σ, nI g, nI s, nI j) = zlp (LX10_tryGiven_6 n) f (σ, nI (g + g1 c a), nI (s + gaN u c a j), nI (j + 1)) := by
  rw [zlp_n]
  show LBX10_tryGiven_6 n _ σ (nI g) (nI s) (nI j) = _
  unfold LBX10_tryGiven_6 BX10_tryGiven_30 BX10_tryGiven_61 g1 gaN
  rw [zif_neg (show ¬ 3 ≤ nI j from nI_ge (b := 3) hj (by decide)), zgd_in hj (by decide), zgd_in hj (by decide), zcl (by omega), ea, hc, nI_1]
  by_cases e : a = c
  · rw [zif_pos (nI_le (by omega) (by omega)), zif_pos (nI_le (by omega) (by omega)), if_pos e, if_pos e, show (0 : Int32) = nI 0 from rfl, nI_add, nI_add]
  · rw [zif_neg (nI_ge (by omega) (by omega)), zgd_n hj (by decide), zif_neg (nI_ge (by omega) (by omega)), zgd_n hj (by decide), if_neg e, if_neg e, show FX10_bringsOf n σ (nI a) (nI j) = _ from bringsOf_x hv hb (by omega) hj, zbd_s, nI_add, nI_1]
def gC (σ : zMem) (g s a b d : Nat) : zMem := zst (zst (zst (zst (zst σ 0 26 (nI g)) 0 27 (nI s)) 16 0 (nI a)) 16 1 (nI b)) 16 2 (nI d)
theorem tg_c {n g s a b d : Nat} {σ : zMem} {l3 : Int32} (hn : 20 < n) (e0 : σ 15 0 = nI a) (e1 : σ 15 1 = nI b) (e2 : σ 15 2 = nI d) : BX10_tryGiven_93 n σ (nI g) (nI s) l3 = some (0, gC σ g s a b d) := by
  obtain ⟨N, rfl⟩ : ∃ N, n = N + 20 := ⟨n - 20, by omega⟩
  have st : ∀ (f j : Nat) (τ : zMem) (l1 l2 : Int32), j < 3 → zlp (LX10_tryGiven_105 (N + 20)) (f + 1) (τ, l1, l2, nI j) = zlp (LX10_tryGiven_105 (N + 20)) f (zst τ 16 j (τ 15 j), l1, l2, nI (j + 1)) := by
    intro f j τ l1 l2 hj
    rw [zlp_n]
    show LBX10_tryGiven_105 (N + 20) _ τ l1 l2 (nI j) = _
    unfold LBX10_tryGiven_105
    rw [zif_neg (show ¬ 3 ≤ nI j from nI_ge (b := 3) hj (by decide)), zgd_in hj (by decide), zgd_in hj (by decide), zcl (by omega), zlet_s, nI_1]
  have en : ∀ (f : Nat) (τ : zMem) (l1 l2 : Int32), zlp (LX10_tryGiven_105 (N + 20)) (f + 1) (τ, l1, l2, nI 3) = some (0, τ) := by
    intro f τ l1 l2
    rw [zlp_n]
    show LBX10_tryGiven_105 (N + 20) _ τ l1 l2 (nI 3) = _
    unfold LBX10_tryGiven_105
    rw [zif_pos (by decide)]
  unfold BX10_tryGiven_93
  rw [zlet_s, zlet_s, show (0 : Int32) = nI 0 from rfl, st _ _ _ _ _ (by decide), st _ _ _ _ _ (by decide), st _ _ _ _ _ (by decide), en]
  simp only [zst_n (show (15 : Nat) ≠ 16 by decide), zst_n (show (15 : Nat) ≠ 0 by decide), e0, e1, e2]
  rfl
theorem tryGiven_x {n c a b d T : Nat} {σ : zMem} {u : Nat → Nat → Nat} (hn : 20 < n) (hc : σ 0 5 = nI c) (h6 : c ≤ 6) (hv : mV σ u) (hb : uB u T) (ha : a ≤ c) (hb2 : b ≤ c) (hd : d ≤ c) (e0 : σ 15 0 = nI a) (e1 : σ 15 1 = nI b) (e2 : σ 15 2 = nI d) : FX10_tryGiven n σ = zif (σ 0 26 < nI (gvN c a b d)) (some (0, gC σ (gvN c a b d) (tgN u c a b d) a b d)) (zif (nI (gvN c a b d) = σ 0 26) (zif (nI (tgN u c a b d) ≤ σ 0 27) (some (0, σ)) (some (0, gC σ (gvN c a b d) (tgN u c a b d) a b d))) (some (0, σ))) := by
  have en : ∀ (f g s : Nat), zlp (LX10_tryGiven_6 n) (f + 1) (σ, nI g, nI s, nI 3) = zif (σ 0 26 < nI g) (some (0, gC σ g s a b d)) (zif (nI g = σ 0 26) (zif (nI s ≤ σ 0 27) (some (0, σ)) (some (0, gC σ g s a b d))) (some (0, σ))) := by
    intro f g s
    rw [zlp_n]
    show LBX10_tryGiven_6 n _ σ (nI g) (nI s) (nI 3) = _
    unfold LBX10_tryGiven_6
    rw [zif_pos (by decide), tg_c hn e0 e1 e2]
  obtain ⟨N, rfl⟩ : ∃ N, n = N + 20 := ⟨n - 20, by omega⟩
  unfold FX10_tryGiven
  rw [show (0 : Int32) = nI 0 from rfl, tg_s hc h6 hv hb (by decide) ha e0, tg_s hc h6 hv hb (by decide) hb2 e1, tg_s hc h6 hv hb (by decide) hd e2, en, show 0 + g1 c a + g1 c b + g1 c d = gvN c a b d from by unfold gvN; omega, show 0 + gaN u c a 0 + gaN u c b (0 + 1) + gaN u c d (0 + 1 + 1) = tgN u c a b d from by show 0 + gaN u c a 0 + gaN u c b 1 + gaN u c d 2 = _; unfold tgN; omega]
  rfl
def mG (c : Nat) (σ : zMem) (o : bQ) : Prop := match o with
  | none => σ 0 26 = -9 ∨ ∃ m, m < kkN c ∧ σ 0 26 = nI m
  | some q => σ 0 26 = nI (kkN c) ∧ σ 0 27 = nI q.1 ∧ σ 16 0 = nI q.2.1 ∧ σ 16 1 = nI q.2.2.1 ∧ σ 16 2 = nI q.2.2.2
def mGI (c : Nat) (σ0 σ : zMem) (o : bQ) : Prop := mK σ0 σ ∧ mG c σ o ∧ ∀ q, o = some q → q.1 ≤ 486 ∧ q.2.1 ≤ c ∧ q.2.2.1 ≤ c ∧ q.2.2.2 ≤ c
theorem mV_K {σ σ' : zMem} {u : Nat → Nat → Nat} (h : mV σ u) (k : mK σ σ') : mV σ' u := ⟨fun p hp f hf => by rw [k.2 _ (by omega)]; exact h.1 p hp f hf, fun m hm => by rw [k.2 _ (by omega)]; exact h.2 m hm⟩
theorem gv_le {c a b d : Nat} (h0 : 2 ≤ c) (ha : a ≤ c) (hb : b ≤ c) (hd : d ≤ c) (h : ¬ twP c a b d) : gvN c a b d ≤ kkN c := by
  unfold twP at h
  unfold gvN g1 kkN
  split <;> split <;> split <;> split <;> omega
theorem gR_K {σ0 σ : zMem} {a b d : Nat} (h : mK σ0 σ) : mK σ0 (gR σ a b d) := ((h.st (by omega)).st (by omega)).st (by omega)
theorem gC_K {σ0 σ : zMem} {g s a b d : Nat} (h : mK σ0 σ) : mK σ0 (gC σ g s a b d) := ((((h.st (by omega)).st (by omega)).st (by omega)).st (by omega)).st (by omega)
theorem gC_26 {σ : zMem} {g s a b d : Nat} : gC σ g s a b d 0 26 = nI g := by
  unfold gC
  rw [zst_n (by decide), zst_n (by decide), zst_n (by decide), zst_sn (by decide), zst_ss]
theorem gC_27 {σ : zMem} {g s a b d : Nat} : gC σ g s a b d 0 27 = nI s := by
  unfold gC
  rw [zst_n (by decide), zst_n (by decide), zst_n (by decide), zst_ss]
theorem gC_16 {σ : zMem} {g s a b d : Nat} : gC σ g s a b d 16 0 = nI a ∧ gC σ g s a b d 16 1 = nI b ∧ gC σ g s a b d 16 2 = nI d := by
  unfold gC
  refine ⟨?_, ?_, zst_ss⟩
  · rw [zst_sn (by decide), zst_sn (by decide), zst_ss]
  · rw [zst_sn (by decide), zst_ss]
theorem mG_R {c a b d : Nat} {σ : zMem} {o : bQ} (h : mG c σ o) : mG c (gR σ a b d) o := by
  cases o with
  | none => show gR σ a b d 0 26 = -9 ∨ ∃ m, m < kkN c ∧ gR σ a b d 0 26 = nI m; rw [gR_o (by decide)]; exact h
  | some q => show gR σ a b d 0 26 = nI (kkN c) ∧ gR σ a b d 0 27 = nI q.1 ∧ gR σ a b d 16 0 = nI q.2.1 ∧ gR σ a b d 16 1 = nI q.2.2.1 ∧ gR σ a b d 16 2 = nI q.2.2.2; rw [gR_o (by decide), gR_o (by decide)]; exact h
theorem best_s {n T c i : Nat} {σ0 σ : zMem} {u : Nat → Nat → Nat} {o : bQ} (hn : 20 < n) (h0 : 2 ≤ c) (h6 : c ≤ 6) (hc : σ0 0 5 = nI c) (hv : mV σ0 u) (hB : uB u T) (hi : i < 343) (hX : mGI c σ0 σ o) : ∃ r σ1, FX10_canGive n σ (nI i) = some (r, σ1) ∧ ∃ (z : Int32) (σ2 : zMem), (r = 0 ∧ σ2 = σ1 ∨ ¬ r = 0 ∧ FX10_tryGiven n σ1 = some (z, σ2)) ∧ mGI c σ0 σ2 (stB u c o (i / (c + 1) / (c + 1) % (c + 1)) (i / (c + 1) % (c + 1)) (i % (c + 1))) := by
  obtain ⟨x1, x2, x3⟩ := hX
  have q0 : c + 1 > 0 := by omega
  have m1 := Nat.mod_lt i q0
  have m2 := Nat.mod_lt (i / (c + 1)) q0
  have m3 := Nat.mod_lt (i / (c + 1) / (c + 1)) q0
  have cg := canGive_x (σ := σ) hn (show σ 0 5 = nI c by rw [x1.1 5 (by omega)]; exact hc) h6 hi
  generalize i % (c + 1) = d at *
  generalize i / (c + 1) % (c + 1) = b at *
  generalize i / (c + 1) / (c + 1) % (c + 1) = a at *
  refine ⟨_, _, cg, ?_⟩
  have k1 := gR_K (a := a) (b := b) (d := d) x1
  have x2 := mG_R (a := a) (b := b) (d := d) x2
  have tg := tgN_le hB h6 (show a ≤ c by omega) (show b ≤ c by omega) (show d ≤ c by omega)
  by_cases e1 : twP c a b d
  · refine ⟨0, _, Or.inl ⟨if_pos e1, rfl⟩, ?_⟩
    unfold stB
    rw [if_neg (fun z => z.1 e1)]
    exact ⟨k1, x2, x3⟩
  have gl := gv_le h0 (show a ≤ c by omega) (show b ≤ c by omega) (show d ≤ c by omega) e1
  have kl : kkN c ≤ 3 := by unfold kkN; split <;> omega
  have tr := tryGiven_x (σ := gR σ a b d) hn (show gR σ a b d 0 5 = nI c by rw [k1.1 5 (by omega)]; exact hc) h6 (mV_K hv k1) hB (show a ≤ c by omega) (show b ≤ c by omega) (show d ≤ c by omega) gR_0 gR_1 gR_2
  have kC := gC_K (g := gvN c a b d) (s := tgN u c a b d) (a := a) (b := b) (d := d) k1
  have aC := gC_26 (σ := gR σ a b d) (g := gvN c a b d) (s := tgN u c a b d) (a := a) (b := b) (d := d)
  have bC := gC_27 (σ := gR σ a b d) (g := gvN c a b d) (s := tgN u c a b d) (a := a) (b := b) (d := d)
  have dC := gC_16 (σ := gR σ a b d) (g := gvN c a b d) (s := tgN u c a b d) (a := a) (b := b) (d := d)
  generalize gR σ a b d = τ at *
  generalize gC τ (gvN c a b d) (tgN u c a b d) a b d = τ' at *
  have yes : gvN c a b d = kkN c → mGI c σ0 τ' (some (tgN u c a b d, a, b, d)) := fun hk => ⟨kC, ⟨by rw [aC, hk], bC, dC⟩, fun q hq => by cases hq; exact ⟨tg, Nat.le_of_lt_succ m3, Nat.le_of_lt_succ m2, Nat.le_of_lt_succ m1⟩⟩
  have no : gvN c a b d ≠ kkN c → mGI c σ0 τ' none := fun hk => ⟨kC, Or.inr ⟨_, by omega, aC⟩, fun q hq => by cases hq⟩
  cases o with
  | none =>
    have st1 : stB u c none a b d = if gvN c a b d = kkN c then some (tgN u c a b d, a, b, d) else none := by
      unfold stB
      by_cases hk : gvN c a b d = kkN c
      · rw [if_pos ⟨e1, hk⟩, if_pos hk]
      · rw [if_neg (fun z => hk z.2), if_neg hk]
    rw [st1]
    have both : mGI c σ0 τ' (if gvN c a b d = kkN c then some (tgN u c a b d, a, b, d) else none) := by
      by_cases hk : gvN c a b d = kkN c
      · rw [if_pos hk]; exact yes hk
      · rw [if_neg hk]; exact no hk
    rcases x2 with h | ⟨m, hm, h⟩
    · rw [h, zif_pos (Int32.lt_of_lt_of_le (by decide) (nI_pos' (by omega)))] at tr
      exact ⟨0, τ', Or.inr ⟨by rw [if_neg e1]; decide, tr⟩, both⟩
    · rw [h] at tr
      by_cases l1 : m < gvN c a b d
      · rw [zif_pos (nI_lt l1 (by omega))] at tr
        exact ⟨0, τ', Or.inr ⟨by rw [if_neg e1]; decide, tr⟩, both⟩
      rw [zif_neg (nI_nlt (by omega) (by omega))] at tr
      have keep : mGI c σ0 τ none := ⟨k1, Or.inr ⟨m, hm, h⟩, fun q hq => by cases hq⟩
      rw [if_neg (show ¬ gvN c a b d = kkN c by omega)] at both ⊢
      by_cases l2 : gvN c a b d = m
      · rw [zif_pos (by rw [l2])] at tr
        by_cases l3 : nI (tgN u c a b d) ≤ τ 0 27
        · rw [zif_pos l3] at tr
          exact ⟨0, τ, Or.inr ⟨by rw [if_neg e1]; decide, tr⟩, keep⟩
        · rw [zif_neg l3] at tr
          exact ⟨0, τ', Or.inr ⟨by rw [if_neg e1]; decide, tr⟩, both⟩
      · rw [zif_neg (nI_ne (by omega) (by omega) l2)] at tr
        exact ⟨0, τ, Or.inr ⟨by rw [if_neg e1]; decide, tr⟩, keep⟩
  | some q =>
    have hq := (x3 q rfl).1
    have st1 : stB u c (some q) a b d = if gvN c a b d = kkN c then (if q.1 < tgN u c a b d then some (tgN u c a b d, a, b, d) else some q) else some q := by
      unfold stB
      by_cases hk : gvN c a b d = kkN c
      · rw [if_pos ⟨e1, hk⟩, if_pos hk]
      · rw [if_neg (fun z => hk z.2), if_neg hk]
    have keep : mGI c σ0 τ (some q) := ⟨k1, x2, x3⟩
    rw [st1]
    rw [x2.1, x2.2.1, zif_neg (nI_nlt gl (by omega))] at tr
    by_cases hk : gvN c a b d = kkN c
    · rw [zif_pos (by rw [hk])] at tr
      rw [if_pos hk]
      by_cases l3 : q.1 < tgN u c a b d
      · rw [zif_neg (nI_ge l3 (by omega))] at tr
        rw [if_pos l3]
        exact ⟨0, τ', Or.inr ⟨by rw [if_neg e1]; decide, tr⟩, yes hk⟩
      · rw [zif_pos (nI_le (by omega) (by omega))] at tr
        rw [if_neg l3]
        exact ⟨0, τ, Or.inr ⟨by rw [if_neg e1]; decide, tr⟩, keep⟩
    · rw [zif_neg (nI_ne (by omega) (by omega) hk)] at tr
      rw [if_neg hk]
      exact ⟨0, τ, Or.inr ⟨by rw [if_neg e1]; decide, tr⟩, keep⟩
def bE (p : Int32) (σ : zMem) : Option (Int32 × zMem) := zif (p = -1) (some (σ 0 27, σ)) (zgd (¬ (p < 0 ∨ 3 ≤ p.toNatClampNeg)) (zif (σ 0 5 ≤ σ 16 p.toNatClampNeg) (some (-9, σ)) (zgd (¬ (p < 0 ∨ 3 ≤ p.toNatClampNeg)) (some (σ 16 p.toNatClampNeg, σ)))))
theorem best_l {n T c K : Nat} {σ0 : zMem} {u : Nat → Nat → Nat} {p : Int32} (hn : 20 < n) (h0 : 2 ≤ c) (h6 : c ≤ 6) (hc : σ0 0 5 = nI c) (hv : mV σ0 u) (hB : uB u T) (hK : K ≤ 343) : ∀ f r i (σ : zMem), i + r = K → r < f → mGI c σ0 σ (bst u c i) → ∃ σ', zlp (LX10_best_56 n) f (σ, p, nI K, nI i) = bE p σ' ∧ mGI c σ0 σ' (bst u c K) := by
  intro f
  induction f with
  | zero => intro r i σ _ h; omega
  | succ f ih =>
    intro r i σ hr hf hX
    rw [zlp_n]
    show ∃ σ', LBX10_best_56 n _ σ p (nI K) (nI i) = _ ∧ _
    unfold LBX10_best_56
    cases r with
    | zero =>
      rw [show i = K by omega] at hX ⊢
      exact ⟨σ, by rw [zif_pos (nI_le (by omega) (by omega))]; rfl, hX⟩
    | succ r =>
      obtain ⟨v, σ1, g1, z, σ2, g2, g3⟩ := best_s (n := n) hn h0 h6 hc hv hB (show i < 343 by omega) hX
      rw [zif_neg (nI_ge (by omega) (by omega)), g1, zbd_s]
      rcases g2 with ⟨g2, rfl⟩ | ⟨g2, g4⟩
      · rw [zif_pos g2, nI_1]
        exact ih r (i + 1) σ2 (by omega) (by omega) g3
      · rw [zif_neg g2, g4, zbd_s, nI_1]
        exact ih r (i + 1) σ2 (by omega) (by omega) g3
theorem stB_some {u : Nat → Nat → Nat} {c a b d : Nat} {o : bQ} (h : o ≠ none) : stB u c o a b d ≠ none := by
  cases o with
  | none => exact absurd rfl h
  | some q =>
    unfold stB
    split
    · show (if q.1 < tgN u c a b d then some (tgN u c a b d, a, b, d) else some q) ≠ none
      split <;> exact fun z => by cases z
    · exact h
theorem bst_some {u : Nat → Nat → Nat} {c : Nat} (h0 : 2 ≤ c) : ∀ k, bst u c (c + 1 + 3 + k) ≠ none
  | 0 => by
    have h := bst_s (u := u) (c := c) (a := 0) (b := 1) (d := 2) (by omega) (by omega) h0
    rw [show (0 * (c + 1) + 1) * (c + 1) + 2 + 1 = c + 1 + 3 + 0 by omega] at h
    rw [h]
    have e1 : ¬ twP c 0 1 2 := by unfold twP; omega
    have e2 : gvN c 0 1 2 = kkN c := by
      unfold gvN g1 kkN
      split <;> split <;> split <;> split <;> omega
    unfold stB
    rw [if_pos ⟨e1, e2⟩]
    split
    · exact fun z => by cases z
    · split <;> exact fun z => by cases z
  | k + 1 => stB_some (bst_some h0 k)
theorem best_e {t n : Nat} {x : Int32} (hn : 6000 < n) : zE t (fun σ => FX9_best n σ x) (fun σ => FX10_best n σ x) := by
  intro σx σm h
  have hz := h
  obtain ⟨u, c, so, sn, ce, rc, rd, qs, br, ft, tr, ⟨a1, a2, a3, a4⟩, ⟨b1, b2, b3, b4⟩, hB, hc, h3⟩ := h
  have cs : x < -1 ∨ x = -1 ∨ (∃ j, j < 3 ∧ x = nI j) ∨ 3 ≤ x := by
    rcases z_cs x 3 (by decide) with q | q | q
    · exact Or.inr (Or.inr (Or.inl q))
    · by_cases e : x = -1
      · exact Or.inr (Or.inl e)
      · refine Or.inl (Int32.lt_iff_toInt_lt.mpr ?_)
        have q1 := Int32.lt_iff_toInt_lt.mp q
        have q2 : x.toInt ≠ -1 := fun z => e (Int32.toInt_inj.mp z)
        have q3 : (0 : Int32).toInt = 0 := rfl
        show x.toInt < -1
        omega
    · exact Or.inr (Or.inr (Or.inr q))
  show ∃ r σx' σm', FX9_best n σx x = _ ∧ FX10_best n σm x = _ ∧ _
  unfold FX9_best FX10_best
  have bad : x < -1 ∨ 3 ≤ x → ∃ r σx' σm', zif (x < -1) (some ((-2 : Int32), σx)) (zif (x < 3) (zif ((σx 10 2) = 0) (some (-3, σx)) (zbd (FX1_give n 34 10 σx) (fun _ σ4 => zif (x = -1) (some (((σ4 34 1) : Int32), σ4)) (zgd (¬ (x < 0 ∨ 3 ≤ x.toNatClampNeg)) (some (((σ4 35 x.toNatClampNeg) : Int32), σ4)))))) (some (-2, σx))) = some (r, σx') ∧ zbd (FX10_within n σm x (-1) 2) (fun r14 σ13 => zif (r14 = 0) (some (-2, σ13)) (zif ((σ13 0 5) = 0) (some (-3, σ13)) (zlet (zst σ13 0 26 (-9)) (fun σ18 => zlet (zst σ18 0 27 0) (fun σ19 => zlp (LX10_best_56 n) n (σ19, x, ((((σ19 0 5) + 1) * ((σ19 0 5) + 1)) * ((σ19 0 5) + 1)), 0)))))) = some (r, σm') ∧ zR (t + 1) σx' σm' := by
    intro q
    have w : FX10_within n σm x (-1) 2 = some (0, σm) := within_out (q.imp id (fun z => Int32.lt_of_lt_of_le (by decide) z))
    refine ⟨-2, σx, σm, ?_, by rw [w, zbd_s, zif_pos rfl], zR_next hz⟩
    rcases q with q | q
    · rw [zif_pos q]
    · rw [zif_neg (fun z => absurd (Int32.lt_of_le_of_lt q z) (by decide)), zif_neg (Int32.not_lt.mpr q)]
  have good : (x = -1 ∨ ∃ j, j < 3 ∧ x = nI j) → ∃ r σx' σm', zif (x < -1) (some ((-2 : Int32), σx)) (zif (x < 3) (zif ((σx 10 2) = 0) (some (-3, σx)) (zbd (FX1_give n 34 10 σx) (fun _ σ4 => zif (x = -1) (some (((σ4 34 1) : Int32), σ4)) (zgd (¬ (x < 0 ∨ 3 ≤ x.toNatClampNeg)) (some (((σ4 35 x.toNatClampNeg) : Int32), σ4)))))) (some (-2, σx))) = some (r, σx') ∧ zbd (FX10_within n σm x (-1) 2) (fun r14 σ13 => zif (r14 = 0) (some (-2, σ13)) (zif ((σ13 0 5) = 0) (some (-3, σ13)) (zlet (zst σ13 0 26 (-9)) (fun σ18 => zlet (zst σ18 0 27 0) (fun σ19 => zlp (LX10_best_56 n) n (σ19, x, ((((σ19 0 5) + 1) * ((σ19 0 5) + 1)) * ((σ19 0 5) + 1)), 0)))))) = some (r, σm') ∧ zR (t + 1) σx' σm' := by
    intro q
    have n1 : ¬ x < -1 := by
      rcases q with q | ⟨j, hj, q⟩
      · rw [q]; decide
      · rw [q]; exact fun z => absurd (Int32.lt_of_le_of_lt (nI_pos' (by omega)) z) (by decide)
    have n2 : x < 3 := by
      rcases q with q | ⟨j, hj, q⟩
      · rw [q]; decide
      · rw [q]; exact nI_lt (b := 3) hj (by decide)
    have n3 : ¬ 2 < x := by
      rcases q with q | ⟨j, hj, q⟩
      · rw [q]; decide
      · rw [q]; exact nI_nlt (a := 2) (by omega) (by decide)
    have w : FX10_within n σm x (-1) 2 = some (1, σm) := by
      unfold FX10_within
      rw [zif_neg n1, zif_neg n3]
    rw [zif_neg n1, zif_pos n2, w, zbd_s, zif_neg (show ¬ (1 : Int32) = 0 by decide), a1.1, b1.1]
    rcases hc with hc | ⟨hc, h6⟩
    · subst hc
      exact ⟨-3, σx, σm, by rw [zif_pos nI_0], by rw [zif_pos nI_0], zR_next hz⟩
    have hb9 := hB
    unfold FX1_give
    rw [zif_neg (nI_ne0 (by omega) (by omega)), zif_neg (nI_ne0 (by omega) (by omega)), zlet_s, zlet_s, zlet_s, a1.1]
    have xk0 : xK σx (zst σx 34 1 (-1)) := xK.rf.st (by omega)
    have mk0 : mK σm (zst (zst σm 0 26 (-9)) 0 27 0) := (mK.rf.st (by omega)).st (by omega)
    have hK : (c + 1) * (c + 1) * (c + 1) ≤ 343 := Nat.mul_le_mul (Nat.mul_le_mul (show c + 1 ≤ 7 by omega) (show c + 1 ≤ 7 by omega)) (show c + 1 ≤ 7 by omega)
    obtain ⟨σx', gx, ix⟩ := give_o (n := n) (by omega) hc h6 a1.1 a2 hB n (c + 1) 0 (zst σx 34 1 (-1)) (by omega) (by omega) (by rw [Nat.zero_mul, Nat.zero_mul]; exact ⟨xk0, zst_ss, fun q hq => by cases hq⟩)
    obtain ⟨σm', gm, im⟩ := best_l (n := n) (p := x) (by omega) hc h6 b1.1 b2 hB hK n ((c + 1) * (c + 1) * (c + 1)) 0 (zst (zst σm 0 26 (-9)) 0 27 0) (by omega) (by omega) ⟨mk0, Or.inl (by rw [zst_sn (by decide), zst_ss]), fun q hq => by cases hq⟩
    rw [show zlp (LX1_give_12 n 34 10) n (zst σx 34 1 (-1), nI c, 0) = _ from gx, zbd_s, mk0.1 5 (by omega), b1.1, nI_1, pk_mul, pk_mul, show zlp (LX10_best_56 n) n (zst (zst σm 0 26 (-9)) 0 27 0, x, nI ((c + 1) * (c + 1) * (c + 1)), 0) = _ from gm]
    have so := bst_some (u := u) hc ((c + 1) * (c + 1) * (c + 1) - (c + 1 + 3))
    have big : c + 1 + 3 ≤ (c + 1) * (c + 1) * (c + 1) := by
      have w1 : 3 * (c + 1) ≤ (c + 1) * (c + 1) := Nat.mul_le_mul_right _ (by omega)
      have w2 : (c + 1) * (c + 1) * 3 ≤ (c + 1) * (c + 1) * (c + 1) := Nat.mul_le_mul_left _ (by omega)
      omega
    rw [show c + 1 + 3 + ((c + 1) * (c + 1) * (c + 1) - (c + 1 + 3)) = (c + 1) * (c + 1) * (c + 1) by omega] at so
    have hcm : σm' 0 5 = nI c := by rw [im.1.1 5 (by omega)]; exact b1.1
    have zr := zR_K hz ix.1 im.1
    cases hb : bst u c ((c + 1) * (c + 1) * (c + 1)) with
    | none => exact absurd hb so
    | some Q =>
      rw [hb] at ix im
      obtain ⟨x1, x2, x3⟩ := ix
      obtain ⟨y1, y2, y3⟩ := im
      have y3 := (y3 Q rfl).2
      unfold bE
      rcases q with q | ⟨j, hj, q⟩
      · rw [zif_pos q, zif_pos q]
        exact ⟨_, _, _, rfl, by rw [y2.2.1, x2.1], zr⟩
      · have nx : ¬ x = -1 := by rw [q]; exact fun z => absurd (nI_pos' (n := j) (by omega)) (by rw [z]; decide)
        have row : ∀ A : Nat, A ≤ c → σx' 35 j = rwI c A → σm' 16 j = nI A → ∃ r σx'' σm'', (some (σx' 35 j, σx') : Option (Int32 × zMem)) = some (r, σx'') ∧ zif (nI c ≤ σm' 16 j) (some (-9, σm')) (some (σm' 16 j, σm')) = some (r, σm'') ∧ zR (t + 1) σx'' σm'' := by
          intro A hA e1 e2
          rw [e1, e2]
          unfold rwI
          by_cases e : A = c
          · rw [zif_pos (nI_le (by omega) (by omega)), if_pos e]
            exact ⟨_, _, _, rfl, rfl, zr⟩
          · rw [zif_neg (nI_ge (by omega) (by omega)), if_neg e]
            exact ⟨_, _, _, rfl, rfl, zr⟩
        rw [zif_neg nx, zif_neg nx, q, zgd_in hj (by decide), zgd_in hj (by decide), zgd_in hj (by decide), zcl (by omega), hcm]
        match j, hj with
        | 0, _ => exact row _ y3.1 x2.2.1 y2.2.2.1
        | 1, _ => exact row _ y3.2.1 x2.2.2.1 y2.2.2.2.1
        | 2, _ => exact row _ y3.2.2 x2.2.2.2 y2.2.2.2.2
  rcases cs with q | q | q | q
  · exact bad (Or.inl q)
  · exact good (Or.inl q)
  · exact good (Or.inr q)
  · exact bad (Or.inr q)
