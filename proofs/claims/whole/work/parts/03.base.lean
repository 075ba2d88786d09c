/-! the frame of all contracts: loops as pure functions, worlds in place, calls, returns -/
def kIter {σ τ : Type} (step : (σ → Option τ) → σ → Option τ) : Nat → σ → Option τ
  | 0, _ => none
  | n + 1, z => step (kIter step n) z
theorem kIter_ind {σ τ : Type} {step : (σ → Option τ) → σ → Option τ} (G : σ → τ → Prop)
    (hs : ∀ rc : σ → Option τ, (∀ z r, rc z = some r → G z r) → ∀ z r, step rc z = some r → G z r) :
    ∀ n z r, kIter step n z = some r → G z r
  | 0, _, _, h => by cases h
  | n + 1, z, r, h => hs (kIter step n) (kIter_ind G hs n) z r h
theorem kIter_fix {σ τ : Type} {step : (σ → Option τ) → σ → Option τ} {r : τ} (G : σ → Prop)
    (hs : ∀ rc : σ → Option τ, (∀ z, rc z = some r → G z) → ∀ z, step rc z = some r → G z) :
    ∀ n z, kIter step n z = some r → G z
  | 0, _, h => by cases h
  | n + 1, z, h => hs (kIter step n) (kIter_fix G hs n) z h
/-- an int array's place read, and written -/
def kld (n : Nat) (f : Nat → Int32) (i : Int32) : Option Int32 := if i < 0 ∨ n ≤ i.toNatClampNeg then none else some (f i.toNatClampNeg)
def kst (n : Nat) (f : Nat → Int32) (i x : Int32) : Option (Nat → Int32) := if i < 0 ∨ n ≤ i.toNatClampNeg then none else some (upd f i.toNatClampNeg x)
def kdiv (x y : Int32) : Option Int32 := if y = 0 then none else some (x / y)
def krem (x y : Int32) : Option Int32 := if y = 0 then none else some (x - x / y * y)
/-- a boolean answer -/
def kz (v : Int32) : Option Int32 := if v = 0 ∨ v = 1 then some v else none
theorem kld_bind {n : Nat} {f : Nat → Int32} {i : Int32} {τ : Type} {K : Int32 → Option τ} {r : τ} (h : (kld n f i).bind K = some r) : vp_in i n ∧ K (f i.toNatClampNeg) = some r := by
  unfold kld at h
  by_cases hc : i < 0 ∨ n ≤ i.toNatClampNeg
  · rw [if_pos hc] at h; cases h
  · rw [if_neg hc] at h; exact ⟨hc, h⟩
theorem kst_bind {n : Nat} {f : Nat → Int32} {i x : Int32} {τ : Type} {K : (Nat → Int32) → Option τ} {r : τ} (h : (kst n f i x).bind K = some r) : vp_in i n ∧ K (upd f i.toNatClampNeg x) = some r := by
  unfold kst at h
  by_cases hc : i < 0 ∨ n ≤ i.toNatClampNeg
  · rw [if_pos hc] at h; cases h
  · rw [if_neg hc] at h; exact ⟨hc, h⟩
theorem kdiv_bind {x y : Int32} {τ : Type} {K : Int32 → Option τ} {r : τ} (h : (kdiv x y).bind K = some r) : ¬ y = 0 ∧ K (x / y) = some r := by
  unfold kdiv at h
  by_cases hc : y = 0
  · rw [if_pos hc] at h; cases h
  · rw [if_neg hc] at h; exact ⟨hc, h⟩
theorem krem_bind {x y : Int32} {τ : Type} {K : Int32 → Option τ} {r : τ} (h : (krem x y).bind K = some r) : ¬ y = 0 ∧ K (x - x / y * y) = some r := by
  unfold krem at h
  by_cases hc : y = 0
  · rw [if_pos hc] at h; cases h
  · rw [if_neg hc] at h; exact ⟨hc, h⟩
theorem kz_bind {v : Int32} {τ : Type} {K : Int32 → Option τ} {r : τ} (h : (kz v).bind K = some r) : narrow .boolean (.int v) = .int v ∧ K v = some r := by
  unfold kz at h
  by_cases hc : v = 0 ∨ v = 1
  · rw [if_pos hc] at h
    refine ⟨?_, h⟩
    rcases hc with rfl | rfl <;> decide
  · rw [if_neg hc] at h; cases h
/-- the links between nest mates -/
def kNwF : List (String × Nat × String × String × String × String) := [(RX5, 114, "ClappedWrong$Crowd", "armRows", "I", "ClappedWrong"), (RX5, 121, "ClappedWrong$Night", "barsGone", "I", "ClappedWrong"), (RX5, 132, "ClappedWrong$Night", "beatsLeftOut", "I", "ClappedWrong"), (RX5, 159, "ClappedWrong$Night", "recorded", "I", "ClappedWrong"), (RX5, 176, "ClappedWrong$Hall", "late", "I", "ClappedWrong"), (RX5, 252, "ClappedWrong$Draws", "seed", "I", "ClappedWrong"), (RX5, 62, "ClappedWrong$Page", "length", "I", "ClappedWrong"), (RX5, 83, "ClappedWrong$Hall", "rows", "I", "ClappedWrong"), (RX5, 97, "ClappedWrong$Night", "crowd", "LClappedWrong$Crowd;", "ClappedWrong"), (RX0, 34, "ClappedWrong$Hall", "rows", "I", "ClappedWrong"), (RX0, 74, "ClappedWrong$Hall", "palms", "[I", "ClappedWrong"), (RX2, 28, "ClappedWrong$Page", "length", "I", "ClappedWrong")]
def kNwM : List (String × Nat × MethodName × String) := [(RX0, 45, yX5_oneIf, "ClappedWrong"), (RX0, 77, yX5_swapped, "ClappedWrong"), (RX3, 40, yX5_within, "ClappedWrong"), (RX4, 19, yX5_within, "ClappedWrong")]
def kNW (U : State) : Prop := (∀ q ∈ kNwF, va_Nw (.fieldLinkNest q.1 q.2.1 q.2.2.1 q.2.2.2.1 q.2.2.2.2.1 q.2.2.2.2.2) U) ∧ ∀ q ∈ kNwM, va_Nw (.methodLinkNest q.1 q.2.1 q.2.2.1 q.2.2.2) U
theorem kNW.warm {s U : State} (hW : s.WarmedH U.vm) (h : kNW s) : kNW U := ⟨fun q hq => va_Nw.warmF hW (h.1 q hq), fun q hq => va_Nw.warmM hW (h.2 q hq)⟩
theorem kNW.same {u U : State} (hv : u.vm = U.vm) (h : kNW u) : kNW U := ⟨fun q hq => va_Nw.same rfl hv (h.1 q hq), fun q hq => va_Nw.same rfl hv (h.2 q hq)⟩
theorem kNW.f {s : State} (h : kNW s) (a : String) (i : Nat) (b n d t : String) (hq : (a, i, b, n, d, t) ∈ kNwF) {A : Array Value} : (Cond.fieldLinkNest a i b n d t).before A s = true := va_Nw.use rfl (h.1 _ hq)
theorem kNW.m {s : State} (h : kNW s) (a : String) (i : Nat) (y : MethodName) (t : String) (hq : (a, i, y, t) ∈ kNwM) : va_Nw (.methodLinkNest a i y t) s := h.2 _ hq
/-- cells laid in place -/
def kSet : va_W → List Nat → va_W → va_W
  | ws, i :: is, c :: cs => kSet (ws.set i c) is cs
  | ws, _, _ => ws
theorem kSet_get : ∀ (is : List Nat) (ws cs : va_W) (k : Nat) (q : Nat × va_E), is.length = cs.length → (kSet ws is cs)[k]? = some q → (∃ j : Nat, is[j]? = some k ∧ cs[j]? = some q) ∨ (k ∉ is ∧ ws[k]? = some q)
  | [], ws, [], k, q, _, h => Or.inr ⟨List.not_mem_nil, h⟩
  | i :: is, ws, c :: cs, k, q, hl, h => by
    have hl' : is.length = cs.length := by simpa using hl
    rcases kSet_get is (ws.set i c) cs k q hl' h with ⟨j, h1, h2⟩ | ⟨h1, h2⟩
    · exact Or.inl ⟨j + 1, by simpa using h1, by simpa using h2⟩
    · by_cases hk : k = i
      · subst hk
        have hlt : k < ws.length := by
          have := (List.getElem?_eq_some_iff.mp h2).1
          simpa using this
        rw [List.getElem?_set_self hlt] at h2
        exact Or.inl ⟨0, rfl, by simpa using h2⟩
      · rw [List.getElem?_set_ne (fun e => hk e.symm)] at h2
        refine Or.inr ⟨?_, h2⟩
        intro hm
        rcases List.mem_cons.mp hm with e | e
        · exact hk e
        · exact h1 e
/-- behind a call that keeps its cells' addresses: the callee's cells in their places, the rest as it was -/
theorem kSet_world {A : Nat → Prop} {D : va_G} {cl : List vw_C} {ws wc wc' : va_W} {H H1 : Heap} (hP : va_P D cl ws H) (hD : va_D A ws) (isC : List Nat) (hC : isC.map (fun i => ws[i]?) = wc.map some) (hadr : wc'.map Prod.fst = wc.map Prod.fst)
    (hk : ∀ q : Nat, q < H.size → ¬ va_A wc H.size q → H1[q]? = H[q]?) (hP1 : va_P D cl wc' H1) : va_P D cl (kSet ws isC wc') H1 ∧ va_D A (kSet ws isC wc') := by
  have hlen : isC.length = wc'.length := by
    have h1 := congrArg List.length hC
    have h2 := congrArg List.length hadr
    simp at h1 h2
    omega
  have at' : ∀ (j : Nat) (q : Nat × va_E), wc[j]? = some q → ∃ i : Nat, isC[j]? = some i ∧ ws[i]? = some q := by
    intro j q hq
    have h1 : (isC.map (fun i => ws[i]?))[j]? = some (some q) := by rw [hC, List.getElem?_map, hq]; rfl
    rw [List.getElem?_map] at h1
    cases hi : isC[j]? with
    | none => rw [hi] at h1; cases h1
    | some i => rw [hi] at h1; exact ⟨i, rfl, Option.some.inj h1⟩
  have adr : ∀ (k : Nat) (q : Nat × va_E), (kSet ws isC wc')[k]? = some q → ∃ q0, ws[k]? = some q0 ∧ q0.1 = q.1 := by
    intro k q hq
    rcases kSet_get isC ws wc' k q hlen hq with ⟨j, h1, h2⟩ | ⟨-, h2⟩
    · have h3 : (wc'.map Prod.fst)[j]? = some q.1 := by rw [List.getElem?_map, h2]; rfl
      rw [hadr, List.getElem?_map] at h3
      cases hw : wc[j]? with
      | none => rw [hw] at h3; cases h3
      | some q0 =>
        rw [hw] at h3
        obtain ⟨i, h4, h5⟩ := at' j q0 hw
        have : i = k := Option.some.inj (h4.symm.trans h1)
        subst this
        exact ⟨q0, h5, Option.some.inj h3⟩
    · exact ⟨q, h2, rfl⟩
  refine ⟨fun k q hq => ?_, fun i j x y hi hj hxy => ?_, fun k q hq => ?_⟩
  · rcases kSet_get isC ws wc' k q hlen hq with ⟨j, h1, h2⟩ | ⟨h1, h2⟩
    · exact hP1 j q h2
    · have hl := (hP k q h2).lt
      refine (hP k q h2).kept (hk q.1 hl fun h => ?_)
      rcases h with ⟨j, e, h⟩ | h
      · obtain ⟨i, h3, h4⟩ := at' j (q.1, e) h
        have hik := hD.1 i k (q.1, e) q h4 h2 rfl
        subst hik
        exact h1 (List.mem_of_getElem? h3)
      · omega
  · obtain ⟨x0, a1, a2⟩ := adr i x hi
    obtain ⟨y0, b1, b2⟩ := adr j y hj
    exact hD.1 i j x0 y0 a1 b1 (a2.trans (hxy.trans b2.symm))
  · obtain ⟨q0, a1, a2⟩ := adr k q hq
    rw [← a2]
    exact hD.2 k q0 a1
/-- the one String constant, and String's static, that nobody writes -/
def kST (ad : Nat × Nat) (A : Nat → Prop) (U : State) (H : Heap) : Prop := vk_R RX4 41 "csfed" ad.1 U ∧ vk_S 1 [5] [[99, 115, 102, 101, 100]] (fun _ => ad.1) (fun _ => ad.2) A U H ∧ va_Z "java/lang/String" "COMPACT_STRINGS" "Z" (.int 1) A U H
theorem kST.go {ad : Nat × Nat} {A B : Nat → Prop} {s U : State} (hW : s.WarmedH U.vm) (hk : ∀ a : Nat, a < s.heap.size → ¬ A a → U.heap[a]? = s.heap[a]?) (hAB : ∀ q, B q → A q) (h : kST ad A s s.heap) : kST ad B U U.heap :=
  ⟨vk_R.warm hW h.1, ((vk_S.moved hW.alike h.2.1).kept hk).narrow hAB, ((va_Z.moved hW.alike h.2.2).kept hk).narrow hAB⟩
def kByt : Nat → Int32 := fun j => ([99, 115, 102, 101, 100] : List Int32).getD j 0
theorem kST.value {ad : Nat × Nat} {A : Nat → Prop} {s : State} {H : Heap} (h : kST ad A s H) : va_OF "java/lang/String" "value" "[B" (.ref ad.2) ad.1 A s H := (h.2.1.1 0 (by decide)).2.2.1
theorem kST.coder {ad : Nat × Nat} {A : Nat → Prop} {s : State} {H : Heap} (h : kST ad A s H) : va_OF "java/lang/String" "coder" "B" (.int 0) ad.1 A s H := (h.2.1.1 0 (by decide)).2.1
theorem kST.bytes {ad : Nat × Nat} {A : Nat → Prop} {s : State} {H : Heap} (h : kST ad A s H) : va_T .byte ad.2 5 (fun j => .int (kByt j)) A s H := (h.2.1.1 0 (by decide)).2.2.2
/-- a contract's start and end -/
def kPre (D : va_G) (cI : ClassId) (ad : Nat × Nat) (av : List Value) (ws : va_W) (sz : Nat) : Array Value → State → Prop :=
  va_Pc av (fun U => U.heap.size = sz ∧ va_P D vwCl ws U.heap ∧ va_K D vwCl [(cI, .int)] U ∧ va_D (fun _ => True) ws ∧ kNW U ∧ kST ad (va_A ws sz) U U.heap)
def kQn {S : Type} (D : va_G) (cI : ClassId) (wn : S → va_W) (A : Nat → Prop) : Array Value → State → Outcome → State → Prop := va_Qv (fun (_ : S) => True) (fun u t => va_P D vwCl (wn u) t.heap ∧ va_K D vwCl [(cI, .int)] t ∧ va_D A (wn u)) A
def kQi (D : va_G) (cI : ClassId) (r : Int32) (ws' : va_W) (A : Nat → Prop) : Array Value → State → Outcome → State → Prop := va_Qi (fun r' (_ : Unit) => r' = r) (fun _ t => va_P D vwCl ws' t.heap ∧ va_K D vwCl [(cI, .int)] t ∧ va_D A ws') A
def kQl (D : va_G) (cI : ClassId) (r : Int64) (ws' : va_W) (A : Nat → Prop) : Array Value → State → Outcome → State → Prop := va_Ql (fun r' (_ : Unit) => r' = r) (fun _ t => va_P D vwCl ws' t.heap ∧ va_K D vwCl [(cI, .int)] t ∧ va_D A ws') A
def kQv (D : va_G) (cI : ClassId) (ws' : va_W) (A : Nat → Prop) : Array Value → State → Outcome → State → Prop := va_Qv (fun (_ : Unit) => True) (fun _ t => va_P D vwCl ws' t.heap ∧ va_K D vwCl [(cI, .int)] t ∧ va_D A ws') A
theorem kPre_blind {D : va_G} {cI : ClassId} {ad : Nat × Nat} {av : List Value} {ws : va_W} {sz : Nat} : FrameBlind (kPre D cI ad av ws sz) := fun a U g mk q => by
  obtain ⟨q0, q1, qP, qK, qD, qN, qS⟩ := q
  exact ⟨q0, q1, qP, va_K.moved (u := U) (U := U.calling g mk a) (Vm.Alike.refl U.vm) qK, qD, qN.same rfl, vk_R.same rfl qS.1, vk_S.moved (u := U) (U := U.calling g mk a) (Vm.Alike.refl U.vm) qS.2.1, va_Z.moved (u := U) (U := U.calling g mk a) (Vm.Alike.refl U.vm) qS.2.2⟩
theorem kStart {l : Launch} {y : MethodName} {ws ws' : List Cond} {cc : ByteArray} {maxL : Nat} {ret : Option FieldType} {rm : Room} {D : va_G} {cI : ClassId} {ad : Nat × Nat} {av : List Value} {wl : va_W} {sz mc ms : Nat} {Qc : (Nat → Prop) → Array Value → State → Outcome → State → Prop}
    (hy : plainName y.cls = true) (hw : ws = Cond.code y cc maxL ret :: ws') (hn : (lg_sl av).length ≤ maxL)
    (body : ∀ (p : Program) (e : Env) (s : State) (m : MethodId) (args : Array Value) (below : List Frame) (meth : Method) (c : Code) (A : Nat → Prop) (ls : Array Slot),
      p.tables.exec = Jvm.exec → c.code = cc → meth.sig.returnType = ret → (∀ w ∈ ws, w.before args s = true) → s.vm.findClass y.cls = some m.cls → meth.locks = false → meth.name = y.name → c.maxLocals = maxL → kNW s → kST ad A s s.heap →
      (∀ q : Nat, s.heap.size ≤ q → A q) → va_S A s.heap s.heap [] → va_P D vwCl wl s.heap → va_K D vwCl [(cI, .int)] s → va_D A wl → lv_has ls maxL (lv_args 0 av) →
      W p l e rm s m args below meth c s.heap [] 0 0 (MQ below (Qc A) args s mc ms A) (F0 m 0 ls [])) :
    Met l y ws rm (kPre D cI ad av wl sz) (Qc (va_A wl sz)) mc ms (va_A wl sz) := by
  refine Met.ofW (cc := cc) (maxL := maxL) (ret := ret) hy hw ?_
  intro p e s m args below meth c s₁ B hml hv
  obtain ⟨rfl, hsz, hP, hK, hD0, hN, hST⟩ := hv
  have hts := atoms_spec (ws := ws) B.pre
  have hown : s.vm.findClass y.cls = some m.cls := findClass_of_methodNamed B.named
  have hin : meth.name = y.name := (name_of_methodNamed B.named B.method).1
  subst hsz
  have hD := hD0.self (sz := s.heap.size)
  rw [lg_entry_eq]
  exact body p e s m _ below meth c _ _ B.exec B.bytes B.returns hts hown B.notSynchronized hin hml hN hST (fun q h => Or.inr h) va_S.rf hP hK hD (lv_entry av hn)
section KR
variable {p : Program} {l : Launch} {e : Env} {R : Room} {s : State} {m : MethodId} {args : Array Value} {below : List Frame} {meth : Method} {c : Code} {H : Heap} {locs : List Loc} {cells slots : Nat} {Q : State → Prop}
variable {cc : ByteArray} {pc : Nat} {ls : Array Slot} {rest : List Value} {D : va_G} {cI : ClassId} {A : Nat → Prop} {w' : va_W}
theorem k_iret {v : Int32} (hx : p.tables.exec = Jvm.exec) (hb : c.code = cc) (hr : meth.sig.returnType = some .int) (hlocks : meth.locks = false) (hK : va_K D vwCl [(cI, .int)] s) (hP : va_P D vwCl w' H) (hD : va_D A w') (hS : va_S A s.heap H locs) (hdg : decode cc pc = .ok (.ireturn, 1)) :
    W p l e R s m args below meth c H locs cells slots (MQ below (kQi D cI v w' A) args s cells slots A) (F0 m pc ls [.int v]) :=
  W.iret hx hb hr (fun t ht hW => ⟨⟨v, (), rfl, rfl, by rw [ht]; exact hP, va_K.moved hW.alike hK, hD⟩, hS.F ht⟩) hS.2.2 hdg hlocks
theorem k_zret {v : Int32} {ty : FieldType} (hx : p.tables.exec = Jvm.exec) (hb : c.code = cc) (hr : meth.sig.returnType = some ty) (hlocks : meth.locks = false) (hK : va_K D vwCl [(cI, .int)] s) (hv : narrow ty (.int v) = .int v) (hP : va_P D vwCl w' H) (hD : va_D A w') (hS : va_S A s.heap H locs) (hdg : decode cc pc = .ok (.ireturn, 1)) :
    W p l e R s m args below meth c H locs cells slots (MQ below (kQi D cI v w' A) args s cells slots A) (F0 m pc ls [.int v]) :=
  W.zret hx hb hr hv (fun t ht hW => ⟨⟨v, (), rfl, rfl, by rw [ht]; exact hP, va_K.moved hW.alike hK, hD⟩, hS.F ht⟩) hS.2.2 hdg hlocks
theorem k_lret {v : Int64} (hx : p.tables.exec = Jvm.exec) (hb : c.code = cc) (hr : meth.sig.returnType = some .long) (hlocks : meth.locks = false) (hK : va_K D vwCl [(cI, .int)] s) (hP : va_P D vwCl w' H) (hD : va_D A w') (hS : va_S A s.heap H locs) (hdg : decode cc pc = .ok (.lreturn, 1)) :
    W p l e R s m args below meth c H locs cells slots (MQ below (kQl D cI v w' A) args s cells slots A) (F0 m pc ls [.long v]) :=
  W.lret hx hb hr (fun t ht hW => ⟨⟨v, (), rfl, rfl, by rw [ht]; exact hP, va_K.moved hW.alike hK, hD⟩, hS.F ht⟩) hS.2.2 hdg hlocks
theorem k_vret (hx : p.tables.exec = Jvm.exec) (hb : c.code = cc) (hr : meth.sig.returnType = none) (hlocks : meth.locks = false) (hK : va_K D vwCl [(cI, .int)] s) (hP : va_P D vwCl w' H) (hD : va_D A w') (hS : va_S A s.heap H locs) (hdg : decode cc pc = .ok (.return_, 1)) :
    W p l e R s m args below meth c H locs cells slots (MQ below (kQv D cI w' A) args s cells slots A) (F0 m pc ls []) :=
  W.vret hx hb hr (fun t ht hW => ⟨⟨(), rfl, trivial, by rw [ht]; exact hP, va_K.moved hW.alike hK, hD⟩, hS.F ht⟩) hS.2.2 hdg hlocks
/-- an int array's place, read -/
theorem k_iald {ws : va_W} {a : Nat} (hx : p.tables.exec = Jvm.exec) (hb : c.code = cc) (hK : va_K D vwCl [(cI, .int)] s) (hP : va_P D vwCl ws H) (q0 : Nat) {n : Nat} {f : Nat → Int32} (ha : ws[q0]? = some (a, .inl (cI, n, .inl f))) {i : Int32} (hdg : decode cc pc = .ok (.iaload, 1))
    {τ : Type} {K : Int32 → Option τ} {r : τ} (h : (kld n f i).bind K = some r) (kk : ∀ v : Int32, K v = some r → W p l e R s m args below meth c H locs cells slots Q (F0 m (pc + 1) ls (.int v :: rest))) :
    W p l e R s m args below meth c H locs cells slots Q (F0 m pc ls (.int i :: .ref a :: rest)) := by
  obtain ⟨h1, h2⟩ := kld_bind h
  exact va_iald hx hb hK hP q0 0 ha rfl h1 hdg (kk _ h2)
/-- the constant text's byte, read -/
theorem k_bald {ad : Nat × Nat} (hx : p.tables.exec = Jvm.exec) (hb : c.code = cc) (hST : kST ad A s s.heap) (hS : va_S A s.heap H locs) {i : Int32} (hdg : decode cc pc = .ok (.baload, 1))
    {τ : Type} {K : Int32 → Option τ} {r : τ} (h : (kld 5 kByt i).bind K = some r) (kk : ∀ v : Int32, K v = some r → W p l e R s m args below meth c H locs cells slots Q (F0 m (pc + 1) ls (.int v :: rest))) :
    W p l e R s m args below meth c H locs cells slots Q (F0 m pc ls (.int i :: .ref ad.2 :: rest)) := by
  obtain ⟨h1, h2⟩ := kld_bind h
  exact va_tb hx hb hST.bytes hS h1 rfl hdg (kk _ h2)
/-- an int array's place, written -/
theorem k_iast {ws : va_W} {a : Nat} (hx : p.tables.exec = Jvm.exec) (hb : c.code = cc) (hK : va_K D vwCl [(cI, .int)] s) (hP : va_P D vwCl ws H) (hD : va_D A ws) (hS : va_S A s.heap H locs) (q0 : Nat) {n : Nat} {f : Nat → Int32} (ha : ws[q0]? = some (a, .inl (cI, n, .inl f))) {i x : Int32} (hdg : decode cc pc = .ok (.iastore, 1))
    {τ : Type} {K : (Nat → Int32) → Option τ} {r : τ} (h : (kst n f i x).bind K = some r) (w2 : (Nat → Int32) → va_W) (e2 : ∀ g, ws.set q0 (a, .inl (cI, n, .inl g)) = w2 g)
    (kk : ∀ (g : Nat → Int32) (H1 : Heap) (locs1 : List Loc), K g = some r → va_P D vwCl (w2 g) H1 → va_D A (w2 g) → va_S A s.heap H1 locs1 → W p l e R s m args below meth c H1 locs1 cells slots Q (F0 m (pc + 1) ls rest)) :
    W p l e R s m args below meth c H locs cells slots Q (F0 m pc ls (.int x :: .int i :: .ref a :: rest)) := by
  obtain ⟨h1, h2⟩ := kst_bind h
  refine va_iast hx hb hK hP hD hS q0 0 ha rfl h1 hdg (fun H1 locs1 hP1 hD1 hS1 => ?_)
  exact kk _ H1 locs1 h2 (by rw [← e2]; exact hP1) (by rw [← e2]; exact hD1) hS1
theorem k_idiv {x y : Int32} (hx : p.tables.exec = Jvm.exec) (hb : c.code = cc) (hdg : decode cc pc = .ok (.idiv, 1)) {τ : Type} {K : Int32 → Option τ} {r : τ} (h : (kdiv x y).bind K = some r) (kk : ∀ v : Int32, K v = some r → W p l e R s m args below meth c H locs cells slots Q (F0 m (pc + 1) ls (.int v :: rest))) :
    W p l e R s m args below meth c H locs cells slots Q (F0 m pc ls (.int y :: .int x :: rest)) := by
  obtain ⟨h1, h2⟩ := kdiv_bind h
  exact lv_idiv hx hb hdg h1 (kk _ h2)
theorem k_irem {x y : Int32} (hx : p.tables.exec = Jvm.exec) (hb : c.code = cc) (hdg : decode cc pc = .ok (.irem, 1)) {τ : Type} {K : Int32 → Option τ} {r : τ} (h : (krem x y).bind K = some r) (kk : ∀ v : Int32, K v = some r → W p l e R s m args below meth c H locs cells slots Q (F0 m (pc + 1) ls (.int v :: rest))) :
    W p l e R s m args below meth c H locs cells slots Q (F0 m pc ls (.int y :: .int x :: rest)) := by
  obtain ⟨h1, h2⟩ := krem_bind h
  exact lv_irem hx hb hdg h1 (kk _ h2)
variable {mc ms k2 n2 : Nat} {st0 : List Value} {ws wc wc' w2 : va_W} {a : Array Value}
theorem k_ci {r : Int32} (hr : va_Run p l e R s m args below meth c H locs cells slots mc ms (F0 m pc ls st0) rest (kQi D cI r wc' (va_A wc H.size) a) (va_A wc H.size)) (hP : va_P D vwCl ws H) (hD : va_D A ws) (hS : va_S A s.heap H locs) (hA : ∀ q : Nat, s.heap.size ≤ q → A q)
    (isC : List Nat) (hC : isC.map (fun i => ws[i]?) = wc.map some) (hadr : wc'.map Prod.fst = wc.map Prod.fst) (e2 : kSet ws isC wc' = w2) (hc2 : cells + mc = k2) (hs2 : slots + ms = n2)
    (kk : ∀ (H1 : Heap) (locs1 : List Loc), va_P D vwCl w2 H1 → va_D A w2 → va_S A s.heap H1 locs1 → W p l e R s m args below meth c H1 locs1 k2 n2 Q (F0 m (pc + 3) ls (.int r :: rest))) :
    W p l e R s m args below meth c H locs cells slots Q (F0 m pc ls st0) := by
  subst hc2; subst hs2; subst e2
  have hFc := va_free (wc := wc) hD hS hA isC hC
  refine va_calli hr hS (fun q _ h => hFc q h) hFc (fun r' u t H1 locs ht hvm hw hB hz1 hk1 hS => ?_)
  obtain ⟨hP1, hK1, hD1⟩ := hB
  rw [ht] at hP1
  cases hw
  obtain ⟨h1, h2⟩ := kSet_world hP hD isC hC hadr hk1 hP1
  exact kk H1 locs h1 h2 hS
theorem k_cl {r : Int64} (hr : va_Run p l e R s m args below meth c H locs cells slots mc ms (F0 m pc ls st0) rest (kQl D cI r wc' (va_A wc H.size) a) (va_A wc H.size)) (hP : va_P D vwCl ws H) (hD : va_D A ws) (hS : va_S A s.heap H locs) (hA : ∀ q : Nat, s.heap.size ≤ q → A q)
    (isC : List Nat) (hC : isC.map (fun i => ws[i]?) = wc.map some) (hadr : wc'.map Prod.fst = wc.map Prod.fst) (e2 : kSet ws isC wc' = w2) (hc2 : cells + mc = k2) (hs2 : slots + ms = n2)
    (kk : ∀ (H1 : Heap) (locs1 : List Loc), va_P D vwCl w2 H1 → va_D A w2 → va_S A s.heap H1 locs1 → W p l e R s m args below meth c H1 locs1 k2 n2 Q (F0 m (pc + 3) ls (.long r :: rest))) :
    W p l e R s m args below meth c H locs cells slots Q (F0 m pc ls st0) := by
  subst hc2; subst hs2; subst e2
  have hFc := va_free (wc := wc) hD hS hA isC hC
  refine va_calll hr hS (fun q _ h => hFc q h) hFc (fun r' u t H1 locs ht hvm hw hB hz1 hk1 hS => ?_)
  obtain ⟨hP1, hK1, hD1⟩ := hB
  rw [ht] at hP1
  cases hw
  obtain ⟨h1, h2⟩ := kSet_world hP hD isC hC hadr hk1 hP1
  exact kk H1 locs h1 h2 hS
theorem k_cv (hr : va_Run p l e R s m args below meth c H locs cells slots mc ms (F0 m pc ls st0) rest (kQv D cI wc' (va_A wc H.size) a) (va_A wc H.size)) (hP : va_P D vwCl ws H) (hD : va_D A ws) (hS : va_S A s.heap H locs) (hA : ∀ q : Nat, s.heap.size ≤ q → A q)
    (isC : List Nat) (hC : isC.map (fun i => ws[i]?) = wc.map some) (hadr : wc'.map Prod.fst = wc.map Prod.fst) (e2 : kSet ws isC wc' = w2) (hc2 : cells + mc = k2) (hs2 : slots + ms = n2)
    (kk : ∀ (H1 : Heap) (locs1 : List Loc), va_P D vwCl w2 H1 → va_D A w2 → va_S A s.heap H1 locs1 → W p l e R s m args below meth c H1 locs1 k2 n2 Q (F0 m (pc + 3) ls rest)) :
    W p l e R s m args below meth c H locs cells slots Q (F0 m pc ls st0) := by
  subst hc2; subst hs2; subst e2
  have hFc := va_free (wc := wc) hD hS hA isC hC
  refine va_callv hr hS (fun q _ h => hFc q h) hFc (fun u t H1 locs ht hvm hw hB hz1 hk1 hS => ?_)
  obtain ⟨hP1, hK1, hD1⟩ := hB
  rw [ht] at hP1
  obtain ⟨h1, h2⟩ := kSet_world hP hD isC hC hadr hk1 hP1
  exact kk H1 locs h1 h2 hS
theorem k_all (hD : va_D A ws) (hS : va_S A s.heap H locs) (hA : ∀ q : Nat, s.heap.size ≤ q → A q) : ∀ q, va_A ws H.size q → A q := by
  intro q h
  rcases h with ⟨k, e, h⟩ | h
  · exact hD.2 k (q, e) h
  · exact hA q (Nat.le_trans hS.1 h)
theorem k_ciA {r : Int32} (hr : va_Run p l e R s m args below meth c H locs cells slots mc ms (F0 m pc ls st0) rest (kQi D cI r wc' (va_A ws H.size) a) (va_A ws H.size)) (hP : va_P D vwCl ws H) (hD : va_D A ws) (hS : va_S A s.heap H locs) (hA : ∀ q : Nat, s.heap.size ≤ q → A q) (hc2 : cells + mc = k2) (hs2 : slots + ms = n2)
    (kk : ∀ (H1 : Heap) (locs1 : List Loc), va_P D vwCl wc' H1 → va_D A wc' → va_S A s.heap H1 locs1 → W p l e R s m args below meth c H1 locs1 k2 n2 Q (F0 m (pc + 3) ls (.int r :: rest))) :
    W p l e R s m args below meth c H locs cells slots Q (F0 m pc ls st0) := by
  subst hc2; subst hs2
  have hFc : ∀ q, va_A ws H.size q → A q := k_all hD hS hA
  refine va_calli hr hS (fun q _ h => hFc q h) hFc (fun r' u t H1 locs ht hvm hw hB hz1 hk1 hS => ?_)
  obtain ⟨hP1, hK1, hD1⟩ := hB
  rw [ht] at hP1
  cases hw
  exact kk H1 locs hP1 (hD1.weaken (fun k q _ h => hFc q.1 h)) hS
theorem k_clA {r : Int64} (hr : va_Run p l e R s m args below meth c H locs cells slots mc ms (F0 m pc ls st0) rest (kQl D cI r wc' (va_A ws H.size) a) (va_A ws H.size)) (hP : va_P D vwCl ws H) (hD : va_D A ws) (hS : va_S A s.heap H locs) (hA : ∀ q : Nat, s.heap.size ≤ q → A q) (hc2 : cells + mc = k2) (hs2 : slots + ms = n2)
    (kk : ∀ (H1 : Heap) (locs1 : List Loc), va_P D vwCl wc' H1 → va_D A wc' → va_S A s.heap H1 locs1 → W p l e R s m args below meth c H1 locs1 k2 n2 Q (F0 m (pc + 3) ls (.long r :: rest))) :
    W p l e R s m args below meth c H locs cells slots Q (F0 m pc ls st0) := by
  subst hc2; subst hs2
  have hFc : ∀ q, va_A ws H.size q → A q := k_all hD hS hA
  refine va_calll hr hS (fun q _ h => hFc q h) hFc (fun r' u t H1 locs ht hvm hw hB hz1 hk1 hS => ?_)
  obtain ⟨hP1, hK1, hD1⟩ := hB
  rw [ht] at hP1
  cases hw
  exact kk H1 locs hP1 (hD1.weaken (fun k q _ h => hFc q.1 h)) hS
theorem k_cvA (hr : va_Run p l e R s m args below meth c H locs cells slots mc ms (F0 m pc ls st0) rest (kQv D cI wc' (va_A ws H.size) a) (va_A ws H.size)) (hP : va_P D vwCl ws H) (hD : va_D A ws) (hS : va_S A s.heap H locs) (hA : ∀ q : Nat, s.heap.size ≤ q → A q) (hc2 : cells + mc = k2) (hs2 : slots + ms = n2)
    (kk : ∀ (H1 : Heap) (locs1 : List Loc), va_P D vwCl wc' H1 → va_D A wc' → va_S A s.heap H1 locs1 → W p l e R s m args below meth c H1 locs1 k2 n2 Q (F0 m (pc + 3) ls rest)) :
    W p l e R s m args below meth c H locs cells slots Q (F0 m pc ls st0) := by
  subst hc2; subst hs2
  have hFc : ∀ q, va_A ws H.size q → A q := k_all hD hS hA
  refine va_callv hr hS (fun q _ h => hFc q h) hFc (fun u t H1 locs ht hvm hw hB hz1 hk1 hS => ?_)
  obtain ⟨hP1, hK1, hD1⟩ := hB
  rw [ht] at hP1
  exact kk H1 locs hP1 (hD1.weaken (fun k q _ h => hFc q.1 h)) hS
theorem k_fm {α β : Type} {f : α → Option β} : ∀ {is : List α} {w : List β}, is.map f = w.map some → is.filterMap f = w
  | [], [], _ => rfl
  | i :: is, x :: w, h => by
    have h1 : f i = some x ∧ is.map f = w.map some := by simpa using h
    rw [List.filterMap_cons, h1.1, k_fm h1.2]
theorem k_pres {ad : Nat × Nat} {av : List Value} {isC : List Nat} (hN : kNW s) (hST : kST ad A s s.heap) (hA : ∀ q : Nat, s.heap.size ≤ q → A q) (hK : va_K D vwCl [(cI, .int)] s) (hP : va_P D vwCl ws H) (hD : va_D A ws) (hS : va_S A s.heap H locs) (hC : isC.map (fun i => ws[i]?) = wc.map some) (hn : va_nd isC = true) : PreS s H (kPre D cI ad av wc H.size) av :=
  ⟨kPre_blind, fun U hU hW => ⟨rfl, by rw [hU], by rw [hU]; exact hP.sub isC (k_fm hC), va_K.moved hW.alike hK, (hD.sub isC hn hC).weaken (fun _ _ _ _ => trivial), hN.warm hW, hST.go hW (fun a h1 h2 => by rw [hU]; exact hS.2.1 a h1 h2) (va_free hD hS hA isC hC)⟩⟩
theorem k_prev {ad : Nat × Nat} {b : Nat} {As : List Value} {isC : List Nat} {ci : Nat} {q : vw_C} {fs : List Value} (hN : kNW s) (hST : kST ad A s s.heap) (hA : ∀ q : Nat, s.heap.size ≤ q → A q) (hK : va_K D vwCl [(cI, .int)] s) (hP : va_P D vwCl ws H) (hD : va_D A ws) (hS : va_S A s.heap H locs) (hC : isC.map (fun i => ws[i]?) = wc.map some) (hn : va_nd isC = true) (q0 : Nat) (hc : vwCl[ci]? = some q) (he : ws[q0]? = some (b, .inr (ci, fs))) : PreV s H q.1 b (kPre D cI ad (.ref b :: As) wc H.size) As :=
  ⟨kPre_blind, va_recv hK hP hc he, (k_pres (ad := ad) (av := .ref b :: As) hN hST hA hK hP hD hS hC hn).2⟩
theorem k_pret {ad : Nat × Nat} {As : List Value} {isC : List Nat} (hN : kNW s) (hST : kST ad A s s.heap) (hA : ∀ q : Nat, s.heap.size ≤ q → A q) (hK : va_K D vwCl [(cI, .int)] s) (hP : va_P D vwCl ws H) (hD : va_D A ws) (hS : va_S A s.heap H locs) (hC : isC.map (fun i => ws[i]?) = wc.map some) (hn : va_nd isC = true) : PreV s H "java/lang/String" ad.1 (kPre D cI ad (.ref ad.1 :: As) wc H.size) As :=
  ⟨kPre_blind, vk_recv hST.2.1 (i := 0) (by decide) hS, (k_pres (ad := ad) (av := .ref ad.1 :: As) hN hST hA hK hP hD hS hC hn).2⟩
theorem k_preA {ad : Nat × Nat} {b : Nat} {As : List Value} {ci : Nat} {q : vw_C} {fs : List Value} (hN : kNW s) (hST : kST ad A s s.heap) (hA : ∀ q : Nat, s.heap.size ≤ q → A q) (hK : va_K D vwCl [(cI, .int)] s) (hP : va_P D vwCl ws H) (hD : va_D A ws) (hS : va_S A s.heap H locs) (q0 : Nat) (hc : vwCl[ci]? = some q) (he : ws[q0]? = some (b, .inr (ci, fs))) : PreV s H q.1 b (kPre D cI ad (.ref b :: As) ws H.size) As :=
  ⟨kPre_blind, va_recv hK hP hc he, fun U hU hW => ⟨rfl, by rw [hU], by rw [hU]; exact hP, va_K.moved hW.alike hK, hD.weaken (fun _ _ _ _ => trivial), hN.warm hW, hST.go hW (fun a h1 h2 => by rw [hU]; exact hS.2.1 a h1 h2) (k_all hD hS hA)⟩⟩
/-- constructors: a world that grows -/
theorem k_nret {S : Type} {wn : S → va_W} (u : S) (hx : p.tables.exec = Jvm.exec) (hb : c.code = cc) (hr : meth.sig.returnType = none) (hlocks : meth.locks = false) (hK : va_K D vwCl [(cI, .int)] s) (hP : va_P D vwCl (wn u) H) (hD : va_D A (wn u)) (hS : va_S A s.heap H locs) (hdg : decode cc pc = .ok (.return_, 1)) :
    W p l e R s m args below meth c H locs cells slots (MQ below (kQn D cI wn A) args s cells slots A) (F0 m pc ls []) :=
  W.vret hx hb hr (fun t ht hW => ⟨⟨u, rfl, trivial, by rw [ht]; exact hP, va_K.moved hW.alike hK, hD⟩, hS.F ht⟩) hS.2.2 hdg hlocks
theorem k_cn {S : Type} {wn : S → va_W} (hr : va_Run p l e R s m args below meth c H locs cells slots mc ms (F0 m pc ls st0) rest (kQn D cI wn (va_A wc H.size) a) (va_A wc H.size)) (hP : va_P D vwCl ws H) (hD : va_D A ws) (hS : va_S A s.heap H locs) (hA : ∀ q : Nat, s.heap.size ≤ q → A q)
    (isC isR : List Nat) {wr : va_W} (hC : isC.map (fun i => ws[i]?) = wc.map some) (hR : isR.map (fun i => ws[i]?) = wr.map some) (hn : va_nd isR = true) (hdis : ∀ i ∈ isR, i ∉ isC) (hc2 : cells + mc = k2) (hs2 : slots + ms = n2)
    (kk : ∀ (u : S) (H1 : Heap) (locs1 : List Loc), va_P D vwCl (wr ++ wn u) H1 → va_D A (wr ++ wn u) → va_S A s.heap H1 locs1 → W p l e R s m args below meth c H1 locs1 k2 n2 Q (F0 m (pc + 3) ls rest)) :
    W p l e R s m args below meth c H locs cells slots Q (F0 m pc ls st0) := by
  subst hc2; subst hs2
  have hFc := va_free (wc := wc) hD hS hA isC hC
  refine va_callv hr hS (fun q _ h => hFc q h) hFc (fun u t H1 locs ht hvm hw hB hz1 hk1 hS => ?_)
  obtain ⟨hP1, hK1, hD1⟩ := hB
  rw [ht] at hP1
  obtain ⟨h1, h2⟩ := va_join (wr := wr) (w1 := wn u) hP hD isC isR hC hR hn hdis hk1 hFc hP1 hD1
  exact kk u H1 locs h1 h2 hS
theorem k_newa (N' : Nat) {n : Int32} (hx : p.tables.exec = Jvm.exec) (hb : c.code = cc) (harr : (Cond.arrayClass .int).before args s = true) (hK : va_K D vwCl [(cI, .int)] s) (hP : va_P D vwCl ws H) (hD : va_D A ws) (hS : va_S A s.heap H locs) (hA : ∀ q : Nat, s.heap.size ≤ q → A q)
    (hn : ¬ n < 0) (hN : n.toNatClampNeg = N') (hbytes : N' * componentBytes .int ≤ 536870912) (hcells : cells + 1 ≤ R.cells) (hslots : slots + N' ≤ R.slots) (hdg : decode cc pc = .ok (.newarray .int, 2)) (w2 : Nat → va_W) (e2 : ∀ q : Nat, ws ++ [(q, .inl (cI, N', .inl (fun _ => 0)))] = w2 q) (hc2 : cells + 1 = k2) (hs2 : slots + N' = n2)
    (kk : ∀ (q : Nat) (H1 : Heap), va_P D vwCl (w2 q) H1 → va_D A (w2 q) → va_S A s.heap H1 locs → W p l e R s m args below meth c H1 locs k2 n2 Q (F0 m (pc + 2) ls (.ref q :: rest))) :
    W p l e R s m args below meth c H locs cells slots Q (F0 m pc ls (.int n :: rest)) := by
  subst hc2; subst hs2
  refine va_newa (atype := .int) hx hb harr rfl hK hP hD hS hA (a0 := (N', .inl (fun _ => 0))) (fun _ => rfl) hn hN hbytes hcells hslots hdg (fun q cA H1 hK2 hP2 hD2 hS2 => ?_)
  have e1 : cA = cI := Option.some.inj ((hK2.2 1 (cA, .int) rfl).2.symm.trans (hK2.2 0 (cI, .int) rfl).2)
  subst e1
  exact kk q H1 (by rw [← e2]; exact hP2) (by rw [← e2]; exact hD2) hS2
end KR
/-- what a loop's or a call's answer is, behind a bind -/
theorem k_bs {α β : Type} {o : Option α} {K : α → Option β} {r : β} (h : o.bind K = some r) : ∃ a, o = some a ∧ K a = some r := by
  cases o with
  | none => cases h
  | some a => exact ⟨a, rfl, h⟩
