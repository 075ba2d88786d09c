/-! all the ways to begin -/
theorem kIter_oneA {σ τ : Type} {step : (σ → Option τ) → σ → Option τ} (R : Nat → σ → Prop) (Q : τ → Prop) (b : Nat)
    (hs : ∀ k z, k < b → R k z → (∃ z1, (∀ rc, step rc z = rc z1) ∧ R (k + 1) z1) ∨ ∃ r, (∀ rc, step rc z = some r) ∧ Q r)
    (he : ∀ z, R b z → ∃ r, (∀ rc, step rc z = some r) ∧ Q r) :
    ∀ (d k : Nat), k + d = b → ∀ n, d < n → ∀ z, R k z → ∃ r, kIter step n z = some r ∧ Q r
  | 0, k, hk, n, hn, z, h => by
    obtain ⟨m, rfl⟩ : ∃ m, n = m + 1 := ⟨n - 1, by omega⟩
    have e : k = b := by omega
    subst e
    obtain ⟨r, h1, h3⟩ := he z h
    exact ⟨r, h1 _, h3⟩
  | d + 1, k, hk, n, hn, z, h => by
    obtain ⟨m, rfl⟩ : ∃ m, n = m + 1 := ⟨n - 1, by omega⟩
    rcases hs k z (by omega) h with ⟨z1, h1, h3⟩ | ⟨r, h1, h3⟩
    · obtain ⟨r, g1, g2⟩ := kIter_oneA R Q b hs he d (k + 1) (by omega) m (by omega) z1 h3
      exact ⟨r, (h1 (kIter step m)).trans g1, g2⟩
    · exact ⟨r, h1 _, h3⟩
def upS (B : Nat → Int32) : Nat → Int32
  | 0 => 0
  | k + 1 => upS B k + B k
def dnS (B : Nat → Int32) : Nat → Int32
  | 0 => 0
  | k + 1 => dnS B k + B (255 - k)
def lsS (B : Nat → Int32) : Nat → Int32
  | 0 => -1
  | k + 1 => if B (255 - k) = 0 then lsS B k else nI (255 - k)
def pnS : Nat → Int32
  | 0 => 255
  | k + 1 => pnS k + (-1)
theorem up_dn (B : Nat → Int32) : ∀ k, k ≤ 256 → upS B (256 - k) + dnS B k = upS B 256
  | 0, _ => Int32.add_zero _
  | k + 1, h => by
    have ih := up_dn B k (by omega)
    rw [show 256 - k = (255 - k) + 1 by omega] at ih
    rw [show 256 - (k + 1) = 255 - k by omega, ← ih]
    show upS B (255 - k) + (dnS B k + B (255 - k)) = upS B (255 - k) + B (255 - k) + dnS B k
    rw [Int32.add_assoc, Int32.add_comm (B (255 - k))]
theorem dn_up (B : Nat → Int32) : dnS B 256 = upS B 256 := by
  have := up_dn B 256 (by omega)
  rw [show 256 - 256 = 0 by omega] at this
  rw [← this]
  exact (Int32.zero_add _).symm
theorem ls_at {B : Nat → Int32} {j : Nat} (hj : j < 256) (h1 : ¬ B j = 0) (h0 : ∀ i, i < j → B i = 0) : ∀ d, d ≤ j → lsS B (256 - (j - d)) = nI j
  | 0, _ => by
    rw [show 256 - (j - 0) = (255 - j) + 1 by omega]
    show (if B (255 - (255 - j)) = 0 then lsS B (255 - j) else nI (255 - (255 - j))) = nI j
    rw [show 255 - (255 - j) = j by omega, if_neg h1]
  | d + 1, h => by
    have ih := ls_at hj h1 h0 d (by omega)
    rw [show 256 - (j - (d + 1)) = (256 - (j - d)) + 1 by omega]
    show (if B (255 - (256 - (j - d))) = 0 then lsS B (256 - (j - d)) else nI (255 - (256 - (j - d)))) = nI j
    rw [if_pos (h0 _ (by omega)), ih]
theorem ls_no {B : Nat → Int32} (h0 : ∀ i, i < 256 → B i = 0) : ∀ k, lsS B k = -1
  | 0 => rfl
  | k + 1 => by
    show (if B (255 - k) = 0 then lsS B k else nI (255 - k)) = -1
    rw [if_pos (h0 _ (by omega)), ls_no h0 k]
theorem nI_back (a : Nat) : nI (a + 1) + (-1) = nI a := by
  rw [← nI_1, Int32.add_assoc, show (1 : Int32) + (-1) = 0 by decide, Int32.add_zero]
theorem pn_at : ∀ k, k ≤ 255 → pnS k = nI (255 - k)
  | 0, _ => rfl
  | k + 1, h => by
    show pnS k + (-1) = _
    rw [pn_at k (by omega), show 255 - k = (255 - (k + 1)) + 1 by omega, nI_back]
theorem pn_end : pnS 256 = -1 := by
  show pnS 255 + (-1) = -1
  rw [pn_at 255 (by omega)]; decide
theorem n256 {k : Nat} (h : k < 256) : ¬ (256 : Int32) ≤ nI k := nI_ge (a := k) (b := 256) h (by omega)
theorem ways_C {kd pl st rs : Nat → Int32} {w n : Nat} {arm : Int32} {B : Nat → Int32} (hB : ∀ m, m < 256 → (B m = 0 ∨ B m = 1) ∧ ∀ (z : Tri) (ar : Int32), ∃ r, fX5_beganSo kd pl st (nI w) arm rs (nI n) z.1 z.2.1 z.2.2 ar (nI m) = some (B m, r)) (sn cl nx : Nat → Int32) (ar : Int32) :
    ∃ r, fX5_waysBegun kd pl st (nI w) arm rs (nI n) sn cl nx ar = some r ∧ r.1 = upS B 256 := by
  obtain ⟨r, h1, h2⟩ := kIter_oneA (step := fX5_waysBegun_L1 kd pl st (nI w) arm rs (nI n)) (fun k z => z.1 = upS B k ∧ z.2.1 = nI k) (fun r => r.1 = upS B 256) 256 (fun k z hk q => by
    obtain ⟨hb, hc⟩ := hB k hk
    obtain ⟨r, hr⟩ := hc z.2.2.2 z.2.2.1
    refine Or.inl ⟨(upS B (k + 1), nI (k + 1), r.1, r.2.1, r.2.2.1, r.2.2.2), fun rc => ?_, rfl, rfl⟩
    unfold fX5_waysBegun_L1
    rw [q.2, if_neg (n256 hk), hr, kb, oneIf_s, kb, nI_1, q.1]
    rcases hb with e | e
    · dsimp only
      rw [e, if_pos rfl]
      show rc (upS B k + 0, _) = rc (upS B k + B k, _)
      rw [e]
    · dsimp only
      rw [e, if_neg i10]
      show rc (upS B k + 1, _) = rc (upS B k + B k, _)
      rw [e]) (fun z q => by
    refine ⟨_, fun rc => ?_, q.1⟩
    unfold fX5_waysBegun_L1
    rw [q.2, if_pos (show (256 : Int32) ≤ nI 256 by decide), ← q.2]) 256 0 (by omega) 300 (by omega) (0, 0, ar, sn, cl, nx) ⟨rfl, rfl⟩
  unfold fX5_waysBegun
  rw [h1, kb]
  exact ⟨_, rfl, h2⟩
theorem least_C {kd pl st rs : Nat → Int32} {w n : Nat} {arm : Int32} {B : Nat → Int32} (hB : ∀ m, m < 256 → (B m = 0 ∨ B m = 1) ∧ ∀ (z : Tri) (ar : Int32), ∃ r, fX5_beganSo kd pl st (nI w) arm rs (nI n) z.1 z.2.1 z.2.2 ar (nI m) = some (B m, r)) (sn cl nx : Nat → Int32) (ar : Int32) :
    ∃ r, fX5_leastBegun kd pl st (nI w) arm rs (nI n) sn cl nx ar = some r ∧ r.1 = lsS B 256 := by
  unfold fX5_leastBegun
  exact kIter_oneA (step := fX5_leastBegun_L1 kd pl st (nI w) arm rs (nI n)) (fun k z => (∀ i, i < k → B i = 0) ∧ z.1 = nI k) (fun r => r.1 = lsS B 256) 256 (fun k z hk q => by
    obtain ⟨hb, hc⟩ := hB k hk
    obtain ⟨r, hr⟩ := hc z.2.2 z.2.1
    by_cases g : B k = 0
    · refine Or.inl ⟨(nI (k + 1), r.1, r.2.1, r.2.2.1, r.2.2.2), fun rc => ?_, fun i hi => ?_, rfl⟩
      · unfold fX5_leastBegun_L1
        rw [q.2, if_neg (n256 hk), hr, kb, if_pos g, nI_1]
      · rcases (show i < k ∨ i = k by omega) with e | e
        · exact q.1 i e
        · rw [e]; exact g
    · refine Or.inr ⟨(nI k, r.1, r.2.1, r.2.2.1, r.2.2.2), fun rc => ?_, ?_⟩
      · unfold fX5_leastBegun_L1
        rw [q.2, if_neg (n256 hk), hr, kb, if_neg g]
      · have := ls_at hk g q.1 k (Nat.le_refl k)
        rw [show 256 - (k - k) = 256 by omega] at this
        exact this.symm) (fun z q => by
    refine ⟨((-1), z.2.1, z.2.2.1, z.2.2.2.1, z.2.2.2.2), fun rc => ?_, (ls_no q.1 256).symm⟩
    unfold fX5_leastBegun_L1
    rw [q.2, if_pos (show (256 : Int32) ≤ nI 256 by decide)]) 256 0 (by omega) 300 (by omega) (0, ar, sn, cl, nx) ⟨fun i hi => absurd hi (Nat.not_lt_zero i), rfl⟩
theorem began_M {rw_ rs : Nat → Int32} {w n : Nat} {arm : Int32} {B : Nat → Int32} (hB : ∀ m, m < 256 → (B m = 0 ∨ B m = 1) ∧ ∀ (z : Tri) (na : Int32), ∃ r, tryM (nI w) arm rw_ (nI n) rs (nI m) na z = some (B m, r)) (now nl ah : Nat → Int32) (na : Int32) :
    ∃ r, kIter (fX6_began_L1 (nI w) arm rw_ (nI n) rs) 300 (0, (-1), 255, na, now, nl, ah) = some r ∧ r.1 = upS B 256 ∧ r.2.1 = lsS B 256 := by
  exact kIter_oneA (step := fX6_began_L1 (nI w) arm rw_ (nI n) rs) (fun k z => z.1 = dnS B k ∧ z.2.1 = lsS B k ∧ z.2.2.1 = pnS k) (fun r => r.1 = upS B 256 ∧ r.2.1 = lsS B 256) 256 (fun k z hk q => by
    obtain ⟨hb, hc⟩ := hB (255 - k) (by omega)
    obtain ⟨r, hr⟩ := hc z.2.2.2.2 z.2.2.2.1
    unfold tryM at hr
    refine Or.inl ⟨(dnS B (k + 1), lsS B (k + 1), pnS (k + 1), r.1, r.2.1, r.2.2.1, r.2.2.2), fun rc => ?_, rfl, rfl, rfl⟩
    unfold fX6_began_L1
    rw [q.1, q.2.1, q.2.2, pn_at k (by omega), if_neg (nI_pos (by omega)), hr, kb]
    show _ = rc (dnS B k + B (255 - k), (if B (255 - k) = 0 then lsS B k else nI (255 - k)), pnS k + (-1), _)
    rw [pn_at k (by omega)]
    rcases hb with e | e
    · rw [e]; rfl
    · rw [e]; rfl) (fun z q => by
    refine ⟨(z.1, z.2.1, (-1), z.2.2.2.1, z.2.2.2.2.1, z.2.2.2.2.2.1, z.2.2.2.2.2.2), fun rc => ?_, q.1.trans (dn_up B), q.2.1⟩
    unfold fX6_began_L1
    rw [q.2.2, pn_end, if_pos (show (-1 : Int32) < 0 by decide)]) 256 0 (by omega) 300 (by omega) (0, (-1), 255, na, now, nl, ah) ⟨rfl, rfl, rfl⟩
