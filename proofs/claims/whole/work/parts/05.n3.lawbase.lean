/-! two worlds side by side: the class's (left), the reference's (right) -/
theorem va_P_left {D : va_G} {cl : List vw_C} {w1 w2 : va_W} {H : Heap} (h : va_P D cl (w1 ++ w2) H) : va_P D cl w1 H := fun k q hk => h k q (by rw [List.getElem?_append_left (List.getElem?_eq_some_iff.mp hk).1]; exact hk)
theorem va_P_right {D : va_G} {cl : List vw_C} {w1 w2 : va_W} {H : Heap} (h : va_P D cl (w1 ++ w2) H) : va_P D cl w2 H := fun k q hk => h (w1.length + k) q (by rw [List.getElem?_append_right (by omega), Nat.add_sub_cancel_left]; exact hk)
theorem va_D_left {A : Nat → Prop} {w1 w2 : va_W} (h : va_D A (w1 ++ w2)) : va_D A w1 := by
  have key : ∀ (k : Nat) (q : Nat × va_E), w1[k]? = some q → (w1 ++ w2)[k]? = some q := fun k q hk => by rw [List.getElem?_append_left (List.getElem?_eq_some_iff.mp hk).1]; exact hk
  exact ⟨fun i j x y hi hj hxy => h.1 i j x y (key i x hi) (key j y hj) hxy, fun k q hk => h.2 k q (key k q hk)⟩
theorem va_D_right {A : Nat → Prop} {w1 w2 : va_W} (h : va_D A (w1 ++ w2)) : va_D A w2 := by
  have key : ∀ (k : Nat) (q : Nat × va_E), w2[k]? = some q → (w1 ++ w2)[w1.length + k]? = some q := fun k q hk => by rw [List.getElem?_append_right (by omega), Nat.add_sub_cancel_left]; exact hk
  refine ⟨fun i j x y hi hj hxy => ?_, fun k q hk => h.2 _ q (key k q hk)⟩
  have := h.1 _ _ x y (key i x hi) (key j y hj) hxy
  omega
theorem va_D_cross {A : Nat → Prop} {w1 w2 : va_W} (h : va_D A (w1 ++ w2)) : ∀ (i j : Nat) (p q : Nat × va_E), w1[i]? = some p → w2[j]? = some q → p.1 ≠ q.1 := by
  intro i j p q hi hj e
  have hl := (List.getElem?_eq_some_iff.mp hi).1
  have := h.1 i (w1.length + j) p q (by rw [List.getElem?_append_left hl]; exact hi) (by rw [List.getElem?_append_right (by omega), Nat.add_sub_cancel_left]; exact hj) e
  omega
theorem k_side {D : va_G} {wc wr : va_W} {H H1 : Heap} {wc' : va_W} (hPr : va_P D vwCl wr H) (hx : ∀ (i j : Nat) (p q : Nat × va_E), wc[i]? = some p → wr[j]? = some q → p.1 ≠ q.1)
    (hk1 : ∀ q : Nat, q < H.size → ¬ va_A wc H.size q → H1[q]? = H[q]?) (hD1 : va_D (va_A wc H.size) wc') : va_P D vwCl wr H1 ∧ ∀ (i j : Nat) (p q : Nat × va_E), wc'[i]? = some p → wr[j]? = some q → p.1 ≠ q.1 := by
  have apart : ∀ (k : Nat) (q : Nat × va_E), wr[k]? = some q → q.1 < H.size ∧ ¬ va_A wc H.size q.1 := by
    intro k q hq
    have hl := (hPr k q hq).lt
    refine ⟨hl, fun h => ?_⟩
    rcases h with ⟨k2, e, h⟩ | h
    · exact hx k2 k (q.1, e) q h hq rfl
    · omega
  refine ⟨fun k q hq => (hPr k q hq).kept (hk1 q.1 (apart k q hq).1 (apart k q hq).2), fun i j p q hi hj e => ?_⟩
  exact (apart j q hj).2 (by rw [← e]; exact hD1.2 i p hi)
section KL
variable {p : Program} {l : Launch} {e : Env} {R : Room} {s : State} {m : MethodId} {args : Array Value} {below : List Frame} {meth : Method} {c : Code} {H : Heap} {locs : List Loc} {cells slots : Nat} {Q : State → Prop}
variable {cc : ByteArray} {pc : Nat} {ls : Array Slot} {rest : List Value} {D : va_G} {cI : ClassId} {A : Nat → Prop}
variable {mc ms k2 n2 : Nat} {st0 : List Value} {w1 w2 w' : va_W} {a : Array Value}
theorem k_freeL (hD : va_D A (w1 ++ w2)) (hS : va_S A s.heap H locs) (hA : ∀ q : Nat, s.heap.size ≤ q → A q) : ∀ q, va_A w1 H.size q → A q := k_all (va_D_left hD) hS hA
theorem k_freeR (hD : va_D A (w1 ++ w2)) (hS : va_S A s.heap H locs) (hA : ∀ q : Nat, s.heap.size ≤ q → A q) : ∀ q, va_A w2 H.size q → A q := k_all (va_D_right hD) hS hA
theorem k_ciL {r : Int32} (hr : va_Run p l e R s m args below meth c H locs cells slots mc ms (F0 m pc ls st0) rest (kQi D cI r w' (va_A w1 H.size) a) (va_A w1 H.size)) (hP : va_P D vwCl (w1 ++ w2) H) (hD : va_D A (w1 ++ w2)) (hS : va_S A s.heap H locs) (hA : ∀ q : Nat, s.heap.size ≤ q → A q) (hc2 : cells + mc = k2) (hs2 : slots + ms = n2)
    (kk : ∀ (H1 : Heap) (locs1 : List Loc), va_P D vwCl (w' ++ w2) H1 → va_D A (w' ++ w2) → va_S A s.heap H1 locs1 → W p l e R s m args below meth c H1 locs1 k2 n2 Q (F0 m (pc + 3) ls (.int r :: rest))) :
    W p l e R s m args below meth c H locs cells slots Q (F0 m pc ls st0) := by
  subst hc2; subst hs2
  have hFc := k_freeL hD hS hA
  refine va_calli hr hS (fun q _ h => hFc q h) hFc (fun r' u t H1 locs ht hvm hw hB hz1 hk1 hS => ?_)
  obtain ⟨hP1, hK1, hD1⟩ := hB
  rw [ht] at hP1
  cases hw
  obtain ⟨hP2, hx2⟩ := k_side (va_P_right hP) (va_D_cross hD) hk1 hD1
  exact kk H1 locs (hP1.app hP2) ((hD1.weaken (fun k q _ h => hFc q.1 h)).app (va_D_right hD) hx2) hS
theorem k_clL {r : Int64} (hr : va_Run p l e R s m args below meth c H locs cells slots mc ms (F0 m pc ls st0) rest (kQl D cI r w' (va_A w1 H.size) a) (va_A w1 H.size)) (hP : va_P D vwCl (w1 ++ w2) H) (hD : va_D A (w1 ++ w2)) (hS : va_S A s.heap H locs) (hA : ∀ q : Nat, s.heap.size ≤ q → A q) (hc2 : cells + mc = k2) (hs2 : slots + ms = n2)
    (kk : ∀ (H1 : Heap) (locs1 : List Loc), va_P D vwCl (w' ++ w2) H1 → va_D A (w' ++ w2) → va_S A s.heap H1 locs1 → W p l e R s m args below meth c H1 locs1 k2 n2 Q (F0 m (pc + 3) ls (.long r :: rest))) :
    W p l e R s m args below meth c H locs cells slots Q (F0 m pc ls st0) := by
  subst hc2; subst hs2
  have hFc := k_freeL hD hS hA
  refine va_calll hr hS (fun q _ h => hFc q h) hFc (fun r' u t H1 locs ht hvm hw hB hz1 hk1 hS => ?_)
  obtain ⟨hP1, hK1, hD1⟩ := hB
  rw [ht] at hP1
  cases hw
  obtain ⟨hP2, hx2⟩ := k_side (va_P_right hP) (va_D_cross hD) hk1 hD1
  exact kk H1 locs (hP1.app hP2) ((hD1.weaken (fun k q _ h => hFc q.1 h)).app (va_D_right hD) hx2) hS
theorem k_ciR {r : Int32} (hr : va_Run p l e R s m args below meth c H locs cells slots mc ms (F0 m pc ls st0) rest (kQi D cI r w' (va_A w2 H.size) a) (va_A w2 H.size)) (hP : va_P D vwCl (w1 ++ w2) H) (hD : va_D A (w1 ++ w2)) (hS : va_S A s.heap H locs) (hA : ∀ q : Nat, s.heap.size ≤ q → A q) (hc2 : cells + mc = k2) (hs2 : slots + ms = n2)
    (kk : ∀ (H1 : Heap) (locs1 : List Loc), va_P D vwCl (w1 ++ w') H1 → va_D A (w1 ++ w') → va_S A s.heap H1 locs1 → W p l e R s m args below meth c H1 locs1 k2 n2 Q (F0 m (pc + 3) ls (.int r :: rest))) :
    W p l e R s m args below meth c H locs cells slots Q (F0 m pc ls st0) := by
  subst hc2; subst hs2
  have hFc := k_freeR hD hS hA
  refine va_calli hr hS (fun q _ h => hFc q h) hFc (fun r' u t H1 locs ht hvm hw hB hz1 hk1 hS => ?_)
  obtain ⟨hP1, hK1, hD1⟩ := hB
  rw [ht] at hP1
  cases hw
  obtain ⟨hP2, hx2⟩ := k_side (va_P_left hP) (fun i j x y hi hj e => va_D_cross hD j i y x hj hi e.symm) hk1 hD1
  exact kk H1 locs (hP2.app hP1) ((va_D_left hD).app (hD1.weaken (fun k q _ h => hFc q.1 h)) (fun i j x y hi hj e => hx2 j i y x hj hi e.symm)) hS
theorem k_clR {r : Int64} (hr : va_Run p l e R s m args below meth c H locs cells slots mc ms (F0 m pc ls st0) rest (kQl D cI r w' (va_A w2 H.size) a) (va_A w2 H.size)) (hP : va_P D vwCl (w1 ++ w2) H) (hD : va_D A (w1 ++ w2)) (hS : va_S A s.heap H locs) (hA : ∀ q : Nat, s.heap.size ≤ q → A q) (hc2 : cells + mc = k2) (hs2 : slots + ms = n2)
    (kk : ∀ (H1 : Heap) (locs1 : List Loc), va_P D vwCl (w1 ++ w') H1 → va_D A (w1 ++ w') → va_S A s.heap H1 locs1 → W p l e R s m args below meth c H1 locs1 k2 n2 Q (F0 m (pc + 3) ls (.long r :: rest))) :
    W p l e R s m args below meth c H locs cells slots Q (F0 m pc ls st0) := by
  subst hc2; subst hs2
  have hFc := k_freeR hD hS hA
  refine va_calll hr hS (fun q _ h => hFc q h) hFc (fun r' u t H1 locs ht hvm hw hB hz1 hk1 hS => ?_)
  obtain ⟨hP1, hK1, hD1⟩ := hB
  rw [ht] at hP1
  cases hw
  obtain ⟨hP2, hx2⟩ := k_side (va_P_left hP) (fun i j x y hi hj e => va_D_cross hD j i y x hj hi e.symm) hk1 hD1
  exact kk H1 locs (hP2.app hP1) ((va_D_left hD).app (hD1.weaken (fun k q _ h => hFc q.1 h)) (fun i j x y hi hj e => hx2 j i y x hj hi e.symm)) hS
theorem k_preL {ad : Nat × Nat} {b : Nat} {As : List Value} {ci : Nat} {q : vw_C} {fs : List Value} (hN : kNW s) (hST : kST ad A s s.heap) (hA : ∀ q : Nat, s.heap.size ≤ q → A q) (hK : va_K D vwCl [(cI, .int)] s) (hP : va_P D vwCl (w1 ++ w2) H) (hD : va_D A (w1 ++ w2)) (hS : va_S A s.heap H locs) (q0 : Nat) (hc : vwCl[ci]? = some q) (he : w1[q0]? = some (b, .inr (ci, fs))) : PreV s H q.1 b (kPre D cI ad (.ref b :: As) w1 H.size) As :=
  k_preA hN hST hA hK (va_P_left hP) (va_D_left hD) hS q0 hc he
theorem k_preR {ad : Nat × Nat} {b : Nat} {As : List Value} {ci : Nat} {q : vw_C} {fs : List Value} (hN : kNW s) (hST : kST ad A s s.heap) (hA : ∀ q : Nat, s.heap.size ≤ q → A q) (hK : va_K D vwCl [(cI, .int)] s) (hP : va_P D vwCl (w1 ++ w2) H) (hD : va_D A (w1 ++ w2)) (hS : va_S A s.heap H locs) (q0 : Nat) (hc : vwCl[ci]? = some q) (he : w2[q0]? = some (b, .inr (ci, fs))) : PreV s H q.1 b (kPre D cI ad (.ref b :: As) w2 H.size) As :=
  k_preA hN hST hA hK (va_P_right hP) (va_D_right hD) hS q0 hc he
end KL
