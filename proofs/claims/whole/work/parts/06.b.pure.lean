/-! pure rows: loops, places, small methods -/
theorem kb {α β : Type} (a : α) (f : α → Option β) : (some a).bind f = f a := rfl
theorem kld_nI {n k : Nat} {f : Nat → Int32} (h : k < n) (hn : n < 2 ^ 31) : kld n f (nI k) = some (f k) := by
  unfold kld
  rw [if_neg (nI_in h hn), nI_clamp (by omega)]
theorem kst_nI {n k : Nat} {f : Nat → Int32} {x : Int32} (h : k < n) (hn : n < 2 ^ 31) : kst n f (nI k) x = some (upd f k x) := by
  unfold kst
  rw [if_neg (nI_in h hn), nI_clamp (by omega)]
theorem kIter_run {σ τ : Type} {step : (σ → Option τ) → σ → Option τ} (S : Nat → σ) {b : Nat} {r : τ} (he : ∀ rc, step rc (S b) = some r) :
    ∀ (d a : Nat), a + d = b → (∀ k, a ≤ k → k < b → ∀ rc, step rc (S k) = rc (S (k + 1))) → ∀ n, d < n → kIter step n (S a) = some r
  | 0, a, hab, _, n, hn => by
    obtain ⟨m, rfl⟩ : ∃ m, n = m + 1 := ⟨n - 1, by omega⟩
    have e : a = b := by omega
    subst e
    exact he _
  | d + 1, a, hab, hs, n, hn => by
    obtain ⟨m, rfl⟩ : ∃ m, n = m + 1 := ⟨n - 1, by omega⟩
    show step (kIter step m) (S a) = some r
    rw [hs a (Nat.le_refl a) (by omega)]
    exact kIter_run S he d (a + 1) (by omega) (fun k h1 h2 => hs k (by omega) h2) m (by omega)
/-- from 0 up to b -/
theorem kIter_up {σ τ : Type} {step : (σ → Option τ) → σ → Option τ} (S : Nat → σ) (b : Nat) {r : τ} (hb : b < 300) (hs : ∀ k, k < b → ∀ rc, step rc (S k) = rc (S (k + 1))) (he : ∀ rc, step rc (S b) = some r) : kIter step 300 (S 0) = some r :=
  kIter_run S he b 0 (by omega) (fun k _ h => hs k h) 300 hb
theorem in_eq (x lo hi : Int32) : fX6_in x.toInt64 lo.toInt64 hi.toInt64 = fX5_within x lo hi := by
  unfold fX6_in fX5_within
  simp only [lg_cmp_lt, lg_cmp_gt]
  simp only [Int64.lt_iff_toInt_lt, Int32.lt_iff_toInt_lt, Int32.toInt_toInt64]
theorem wi_in {x lo hi : Int32} (h1 : ¬ x < lo) (h2 : ¬ hi < x) : fX5_within x lo hi = some 1 := by
  unfold fX5_within
  rw [if_neg h1, if_neg h2]
theorem wi_out {x lo hi : Int32} (h : x < lo ∨ hi < x) : fX5_within x lo hi = some 0 := by
  unfold fX5_within
  by_cases h1 : x < lo
  · rw [if_pos h1]
  · rw [if_neg h1, if_pos (h.resolve_left h1)]
theorem wi_cases (x lo hi : Int32) : (fX5_within x lo hi = some 0 ∧ (x < lo ∨ hi < x)) ∨ (fX5_within x lo hi = some 1 ∧ ¬ x < lo ∧ ¬ hi < x) := by
  by_cases h1 : x < lo
  · exact Or.inl ⟨wi_out (Or.inl h1), Or.inl h1⟩
  · by_cases h2 : hi < x
    · exact Or.inl ⟨wi_out (Or.inr h2), Or.inr h2⟩
    · exact Or.inr ⟨wi_in h1 h2, h1, h2⟩
theorem i10 : ¬ (1 : Int32) = 0 := by decide
theorem L_letter {len len' : Int32} {cs cs' : Nat → Int32} (hp : RPage len cs len' cs') (x : Int32) : ∃ (r : Int32 × Int32 × (Nat → Int32)) (r' : Int32 × Int32 × (Nat → Int32)), fX5_letter cs len x = some r ∧ fX6_letter cs' len' x = some r' ∧ r.1 = r'.1 ∧ RPage r.2.1 r.2.2 r'.2.1 r'.2.2 := by
  have hp0 := hp
  obtain ⟨n, hn, rfl, rfl, hc⟩ := hp
  have e : fX6_in (Int32.toInt64 x) (1 : Int64) (126 : Int64) = fX5_within x 1 126 := in_eq x 1 126
  unfold fX5_letter fX6_letter
  rw [e]
  rcases wi_cases x 1 126 with ⟨h1, -⟩ | ⟨h1, h2, h3⟩
  · rw [h1, kb, kb, if_pos rfl, if_pos rfl]
    exact ⟨_, _, rfl, rfl, rfl, hp0⟩
  · rw [h1, kb, kb, if_neg i10, if_neg i10]
    unfold fX4_write
    rw [if_neg (nI_pos (by omega))]
    by_cases h36 : n = 36
    · subst h36
      rw [if_neg (show ¬ nI 36 < 36 by decide), if_pos (show nI 36 = (36 : Int32) by decide), kb, if_pos rfl]
      exact ⟨_, _, rfl, rfl, rfl, hp0⟩
    · have hlt : n < 36 := by omega
      rw [if_pos (show nI n < 36 from nI_lt (b := 36) hlt (by omega)), if_neg (show ¬ nI n = (36 : Int32) from fun q => h36 ((nI_eq (b := 36) (by omega) (by omega)).mp q)), kst_nI hlt (by omega), kst_nI hlt (by omega), kb, kb, kb, if_neg i10]
      refine ⟨_, _, rfl, rfl, rfl, n + 1, by omega, nI_1 n, nI_1 n, fun k hk => ?_⟩
      by_cases hkn : k = n
      · subst hkn
        show upd cs k x k = upd cs' k x k ∧ 1 ≤ (upd cs k x k).toInt ∧ (upd cs k x k).toInt ≤ 126
        rw [pk_us, pk_us]
        rw [Int32.lt_iff_toInt_lt] at h2 h3
        have a1 : (1 : Int32).toInt = 1 := by decide
        have a2 : (126 : Int32).toInt = 126 := by decide
        rw [a1] at h2
        rw [a2] at h3
        exact ⟨rfl, by omega, by omega⟩
      · show upd cs n x k = upd cs' n x k ∧ 1 ≤ (upd cs n x k).toInt ∧ (upd cs n x k).toInt ≤ 126
        rw [pk_un hkn, pk_un hkn]
        exact hc k (by omega)
theorem L_record {rc rc' : Int32} {rs rs' : Nat → Int32} (hp : RRec rc rs rc' rs') (x : Int32) : ∃ (r : Int32 × Int32 × (Nat → Int32)) (r' : Int32 × Int32 × (Nat → Int32)), fX5_record rs rc x = some r ∧ fX6_record rc' rs' x = some r' ∧ r.1 = r'.1 ∧ RRec r.2.1 r.2.2 r'.2.1 r'.2.2 := by
  have hp0 := hp
  obtain ⟨n, hn, rfl, rfl, hc⟩ := hp
  have e : fX6_in (Int32.toInt64 x) (0 : Int64) (72 : Int64) = fX5_within x 0 72 := in_eq x 0 72
  unfold fX5_record fX6_record
  rw [e]
  rcases wi_cases x 0 72 with ⟨h1, -⟩ | ⟨h1, h2, h3⟩
  · rw [h1, kb, kb, if_pos rfl, if_pos rfl]
    exact ⟨_, _, rfl, rfl, rfl, hp0⟩
  · rw [h1, kb, kb, if_neg i10, if_neg i10]
    unfold fX3_noteDown
    by_cases h8 : n = 8
    · subst h8
      rw [wi_out (x := nI 8) (lo := 0) (hi := 7) (Or.inr (by decide)), if_pos (show nI 8 = (8 : Int32) by decide)]
      exact ⟨_, _, rfl, rfl, rfl, hp0⟩
    · have hlt : n < 8 := by omega
      rw [wi_in (x := nI n) (lo := 0) (hi := 7) (nI_pos (by omega)) (nI_nlt (a := 7) (b := n) (by omega) (by omega)), if_neg (show ¬ nI n = (8 : Int32) from fun q => h8 ((nI_eq (b := 8) (by omega) (by omega)).mp q)), kst_nI hlt (by omega), kst_nI hlt (by omega), kb, kb, kb, if_neg i10]
      refine ⟨_, _, rfl, rfl, rfl, n + 1, by omega, nI_1 n, nI_1 n, fun k hk => ?_⟩
      by_cases hkn : k = n
      · subst hkn
        show upd rs k x k = upd rs' k x k
        rw [pk_us, pk_us]
      · show upd rs n x k = upd rs' n x k
        rw [pk_un hkn, pk_un hkn]
        exact hc k (by omega)
