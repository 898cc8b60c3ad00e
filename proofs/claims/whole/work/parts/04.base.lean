/-! one list of words for all methods: the tables' words that every caller may hand on -/
def TG : List Cond := lw_tbl.filter goodWord
theorem tg_in {w : Cond} (h : w ∈ lw_tbl) (hg : goodWord w = true) : w ∈ TG := List.mem_filter.mpr ⟨h, hg⟩
theorem tg_good {w : Cond} (h : w ∈ TG) : (w.onTables && w.keeps) = true ∨ ∃ ty, w = .arrayClass ty := good_of_word (List.mem_filter.mp h).2
theorem tg_G {cy : Cond} (h : cy ∈ TG) : GoodIn TG (cy :: TG) := by
  intro w hw
  rcases List.mem_cons.mp hw with rfl | hw
  · exact ⟨h, tg_good h⟩
  · exact ⟨hw, tg_good hw⟩
theorem tg_all {ws : List Cond} (h : ∀ w ∈ ws, w ∈ TG) : GoodIn TG ws := fun w hw => ⟨h w hw, tg_good (h w hw)⟩
/-- the words of a virtual call, of a static one, of a constructor's -/
def CV (own : String) (idx : Nat) (C : String) (y : MethodName) (bytes : ByteArray) (maxL : Nat) (ret : Option FieldType) (n : Nat) : Prop :=
  Cond.methodLink own idx y ∈ TG ∧ Cond.instanceMethod y ∈ TG ∧ Cond.selects C y y ∈ TG ∧ Cond.initialized C ∈ TG ∧ Cond.code y bytes maxL ret ∈ TG ∧
  (y.cls = C ∧ y.cls ≠ "java/lang/invoke/MethodHandle" ∧ y.cls ≠ "java/lang/invoke/VarHandle" ∧ (parseMethodDescriptor y.desc).map (fun d => d.parameters.length) = some n)
def CS (own : String) (idx : Nat) (y : MethodName) (bytes : ByteArray) (maxL : Nat) (ret : Option FieldType) (n : Nat) : Prop :=
  Cond.methodLink own idx y ∈ TG ∧ Cond.static y ∈ TG ∧ Cond.initialized y.cls ∈ TG ∧ Cond.code y bytes maxL ret ∈ TG ∧
  (y.cls ≠ "java/lang/invoke/MethodHandle" ∧ y.cls ≠ "java/lang/invoke/VarHandle" ∧ (parseMethodDescriptor y.desc).map (fun d => d.parameters.length) = some n)
def CI (own : String) (idx : Nat) (y : MethodName) (bytes : ByteArray) (maxL : Nat) (n : Nat) : Prop :=
  Cond.methodLink own idx y ∈ TG ∧ Cond.instanceMethod y ∈ TG ∧ Cond.initialized y.cls ∈ TG ∧ Cond.code y bytes maxL none ∈ TG ∧ y.name = "<init>" ∧
  (y.cls ≠ "java/lang/invoke/MethodHandle" ∧ y.cls ≠ "java/lang/invoke/VarHandle" ∧ (parseMethodDescriptor y.desc).map (fun d => d.parameters.length) = some n)
theorem tg_V {own : String} {idx : Nat} {C : String} {y : MethodName} {bytes : ByteArray} {maxL : Nat} {ret : Option FieldType} {n : Nat} (h : CV own idx C y bytes maxL ret n) : GoodIn TG (wsV own idx C y (Cond.code y bytes maxL ret :: TG)) := by
  obtain ⟨h1, h2, h3, h4, h5, -⟩ := h
  refine tg_all (fun w hw => ?_)
  unfold wsV at hw
  rcases List.mem_append.mp hw with hw | hw
  · simp only [List.mem_cons, List.not_mem_nil, or_false] at hw
    rcases hw with rfl | rfl | rfl | rfl
    · exact h1
    · exact h2
    · exact h3
    · exact h4
  · rcases List.mem_cons.mp hw with rfl | hw
    · exact h5
    · exact hw
theorem tg_S {own : String} {idx : Nat} {y : MethodName} {bytes : ByteArray} {maxL : Nat} {ret : Option FieldType} {n : Nat} (h : CS own idx y bytes maxL ret n) : GoodIn TG (va_wsS own idx y (Cond.code y bytes maxL ret :: TG)) := by
  obtain ⟨h1, h2, h3, h4, -⟩ := h
  refine tg_all (fun w hw => ?_)
  unfold va_wsS at hw
  rcases List.mem_append.mp hw with hw | hw
  · simp only [List.mem_cons, List.not_mem_nil, or_false] at hw
    rcases hw with rfl | rfl | rfl
    · exact h1
    · exact h2
    · exact h3
  · rcases List.mem_cons.mp hw with rfl | hw
    · exact h4
    · exact hw
/-- what a reading method that answers a long leaves -/
def QcReadL (r : Int64) : Array Value → State → Outcome → State → Prop := fun _ st o t => o = .returned (some (.long r)) ∧ t.heap = st.heap
/-- the words of nest mates' private members: no caller can hand them on as words, so the contracts' starts carry them -/
def isNest : Cond → Bool
  | .fieldLinkNest .. => true
  | .methodLinkNest .. => true
  | _ => false
def NW (U : State) : Prop := ∀ w ∈ lw_tbl, isNest w = true → va_Nw w U
theorem NW.warm {s U : State} (hW : s.WarmedH U.vm) (h : NW s) : NW U := by
  intro w hw hn
  have h1 := h w hw hn
  cases w with
  | fieldLinkNest a i b n d o => exact h1.warmF hW
  | methodLinkNest a i x o => exact h1.warmM hW
  | _ => cases hn
theorem NW.same {s U : State} (hv : s.vm = U.vm) (h : NW s) : NW U := by
  intro w hw hn
  have h1 := h w hw hn
  cases w with
  | fieldLinkNest a i b n d o => exact h1.same rfl hv
  | methodLinkNest a i x o => exact h1.same rfl hv
  | _ => cases hn
/-- the tables of one run: classes' numbers and slots; the array classes of long, int, boolean -/
abbrev GT : Type := va_G × ClassId × ClassId × ClassId
def KN (G : GT) (U : State) : Prop := va_K G.1 classes [(G.2.1, .long), (G.2.2.1, .int), (G.2.2.2, .boolean)] U ∧ NW U
theorem KN.warm {G : GT} {s U : State} (hW : s.WarmedH U.vm) (h : KN G s) : KN G U := ⟨va_K.moved hW.alike h.1, h.2.warm hW⟩
/-- a contract's start: the arguments, the heap, the tables -/
def PC (G : GT) (H : Heap) (av : List Value) : Array Value → State → Prop := va_Pc av (fun U => U.heap = H ∧ KN G U)
theorem PC.blind {G : GT} {H : Heap} {av : List Value} : FrameBlind (PC G H av) := by
  intro a U g mk h
  obtain ⟨h0, h1, h2, h3⟩ := h
  exact ⟨h0, h1, va_K.moved (u := U) (U := U.calling g mk a) (Vm.Alike.refl U.vm) h2, h3.same (s := U) (U := U.calling g mk a) rfl⟩
section PCalls
variable {p : Program} {l : Launch} {e : Env} {R : Room} {s : State} {m : MethodId} {args : Array Value} {below : List Frame} {meth : Method} {c : Code} {H : Heap} {locs : List Loc} {cells slots : Nat} {Q : State → Prop}
variable {pc : Nat} {ls : Array Slot} {rest st0 : List Value} {a : Array Value} {cc : ByteArray} {nL index n maxL : Nat} {own C host : String} {y : MethodName} {bytes : ByteArray} {ret : Option FieldType} {rm : Room} {G : GT} {b : Nat} {As : List Value}
theorem pr_i {r : Int32} (hr : va_Run p l e R s m args below meth c H locs cells slots 0 0 (F0 m pc ls st0) rest (QcRead r a) (fun _ => False)) (kk : W p l e R s m args below meth c H locs cells slots Q (F0 m (pc + 3) ls (.int r :: rest))) : W p l e R s m args below meth c H locs cells slots Q (F0 m pc ls st0) := by
  intro T hT X
  obtain ⟨v, st₀, t, T', L, h0, X', hL, e1, -, ⟨hv, hh⟩, st⟩ := hr T hT X
  cases hv
  obtain ⟨t2, a1, b1⟩ := kk T' (by rw [e1, hh, h0]) (Stand.forget X' (fun q h => (hL q h).elim))
  exact ⟨t2, st t2 a1, b1⟩
theorem pr_l {r : Int64} (hr : va_Run p l e R s m args below meth c H locs cells slots 0 0 (F0 m pc ls st0) rest (QcReadL r a) (fun _ => False)) (kk : W p l e R s m args below meth c H locs cells slots Q (F0 m (pc + 3) ls (.long r :: rest))) : W p l e R s m args below meth c H locs cells slots Q (F0 m pc ls st0) := by
  intro T hT X
  obtain ⟨v, st₀, t, T', L, h0, X', hL, e1, -, ⟨hv, hh⟩, st⟩ := hr T hT X
  cases hv
  obtain ⟨t2, a1, b1⟩ := kk T' (by rw [e1, hh, h0]) (Stand.forget X' (fun q h => (hL q h).elim))
  exact ⟨t2, st t2 a1, b1⟩
/-- a call: virtual; static; a nest mate's -/
theorem ru_V {Qc : Array Value → State → Outcome → State → Prop} {free : Addr → Prop} {mc ms : Nat} (S : CallFix p m c cc nL s args TG own) (hKN : KN G s)
    (hM : Met l y (Cond.code y bytes maxL ret :: TG) rm (PC G H (.ref b :: As)) Qc mc ms free) (hc : CV own index C y bytes maxL ret n) (hrm : rm.cells = mc ∧ rm.slots = ms)
    (hR : rm.frames + 1 ≤ R.frames ∧ 8 + (maxL + 11) + rm.locals ≤ R.locals) (hb : ∃ cell : Cell, H[b]? = some cell ∧ cell.vm.isStatics = false ∧ s.vm.findClass C = some cell.cls)
    (hn : As.length = n) (hsz : ls.size = nL) (hst : st0 = As.reverse ++ .ref b :: rest) (hcat : (rest.map fun v => v.category).sum ≤ 8) (hdg : decode cc pc = .ok (.invokevirtual index, 3)) (hf : cells + mc ≤ R.cells ∧ slots + ms ≤ R.slots) :
    va_Run p l e R s m args below meth c H locs cells slots mc ms (F0 m pc ls st0) rest (Qc (Value.ref b :: As).toArray) free :=
  va_runV (g := F0 m pc ls st0) S hM (cwV n S.2.2.2.2 (tg_V hc) rfl hrm.1 hrm.2 hc.2.2.2.2.2 hR) ⟨PC.blind, hb, fun U hU hW => ⟨rfl, hU, hKN.warm hW⟩⟩ rfl hn hsz hst (lv_room hcat) hdg hf
theorem ru_S {Qc : Array Value → State → Outcome → State → Prop} {free : Addr → Prop} {mc ms : Nat} (S : CallFix p m c cc nL s args TG own) (hKN : KN G s)
    (hM : Met l y (Cond.code y bytes maxL ret :: TG) rm (PC G H As) Qc mc ms free) (hc : CS own index y bytes maxL ret n) (hrm : rm.cells = mc ∧ rm.slots = ms)
    (hR : rm.frames + 1 ≤ R.frames ∧ 8 + (maxL + 11) + rm.locals ≤ R.locals)
    (hn : As.length = n) (hsz : ls.size = nL) (hst : st0 = As.reverse ++ rest) (hcat : (rest.map fun v => v.category).sum ≤ 8) (hdg : decode cc pc = .ok (.invokestatic index, 3)) (hf : cells + mc ≤ R.cells ∧ slots + ms ≤ R.slots) :
    va_Run p l e R s m args below meth c H locs cells slots mc ms (F0 m pc ls st0) rest (Qc As.toArray) free :=
  va_runS (g := F0 m pc ls st0) S hM (va_cwS n S.2.2.2.2 (tg_S hc) rfl hrm.1 hrm.2 hc.2.2.2.2 hR) ⟨PC.blind, fun U hU hW => ⟨rfl, hU, hKN.warm hW⟩⟩ rfl hn hsz hst (lv_room hcat) hdg hf
theorem ru_I {Qc : Array Value → State → Outcome → State → Prop} {free : Addr → Prop} {mc ms : Nat} (S : CallFix p m c cc nL s args TG own) (hKN : KN G s)
    (hM : Met l y (Cond.code y bytes maxL none :: TG) rm (PC G H (.ref b :: As)) Qc mc ms free) (hc : CI own index y bytes maxL n) (hrm : rm.cells = mc ∧ rm.slots = ms)
    (hR : rm.frames + 1 ≤ R.frames ∧ 8 + (maxL + 11) + rm.locals ≤ R.locals)
    (hn : As.length = n) (hsz : ls.size = nL) (hst : st0 = As.reverse ++ .ref b :: rest) (hcat : (rest.map fun v => v.category).sum ≤ 8) (hdg : decode cc pc = .ok (.invokespecial index, 3)) (hf : cells + mc ≤ R.cells ∧ slots + ms ≤ R.slots) :
    va_Run p l e R s m args below meth c H locs cells slots mc ms (F0 m pc ls st0) rest (Qc (Value.ref b :: As).toArray) free :=
  va_runI (g := F0 m pc ls st0) S hM (cwI n S.2.2.2.2 (tg_G hc.2.2.2.1) rfl hrm.1 hrm.2 (S.2.2.2.2 _ hc.2.2.1) (S.2.2.2.2 _ hc.1) (S.2.2.2.2 _ hc.2.1) hc.2.2.2.2.1 hc.2.2.2.2.2 hR) ⟨PC.blind, fun U hU hW => ⟨rfl, hU, hKN.warm hW⟩⟩ rfl hn hsz hst (lv_room hcat) hdg hf
/-- the words of a nest mate's private method -/
def CNS (own : String) (idx : Nat) (y : MethodName) (host : String) (bytes : ByteArray) (maxL : Nat) (ret : Option FieldType) (n : Nat) : Prop :=
  Cond.methodLinkNest own idx y host ∈ lw_tbl ∧ Cond.static y ∈ TG ∧ Cond.initialized y.cls ∈ TG ∧ Cond.code y bytes maxL ret ∈ TG ∧
  (y.cls ≠ "java/lang/invoke/MethodHandle" ∧ y.cls ≠ "java/lang/invoke/VarHandle" ∧ (parseMethodDescriptor y.desc).map (fun d => d.parameters.length) = some n)
def CNI (own : String) (idx : Nat) (y : MethodName) (host : String) (bytes : ByteArray) (maxL : Nat) (n : Nat) : Prop :=
  Cond.methodLinkNest own idx y host ∈ lw_tbl ∧ Cond.instanceMethod y ∈ TG ∧ Cond.initialized y.cls ∈ TG ∧ Cond.code y bytes maxL none ∈ TG ∧ y.name = "<init>" ∧
  (y.cls ≠ "java/lang/invoke/MethodHandle" ∧ y.cls ≠ "java/lang/invoke/VarHandle" ∧ (parseMethodDescriptor y.desc).map (fun d => d.parameters.length) = some n)
theorem ru_SN {Qc : Array Value → State → Outcome → State → Prop} {free : Addr → Prop} {mc ms : Nat} (S : CallFix p m c cc nL s args TG own) (hKN : KN G s)
    (hM : Met l y (Cond.code y bytes maxL ret :: TG) rm (PC G H As) Qc mc ms free) (hc : CNS own index y host bytes maxL ret n) (hrm : rm.cells = mc ∧ rm.slots = ms)
    (hR : rm.frames + 1 ≤ R.frames ∧ 8 + (maxL + 11) + rm.locals ≤ R.locals)
    (hn : As.length = n) (hsz : ls.size = nL) (hst : st0 = As.reverse ++ rest) (hcat : (rest.map fun v => v.category).sum ≤ 8) (hdg : decode cc pc = .ok (.invokestatic index, 3)) (hf : cells + mc ≤ R.cells ∧ slots + ms ≤ R.slots) :
    va_Run p l e R s m args below meth c H locs cells slots mc ms (F0 m pc ls st0) rest (Qc As.toArray) free :=
  va_runSN (g := F0 m pc ls st0) S hM ⟨va_cnB n S.2.2.2.2 (tg_G hc.2.2.2.1) rfl hrm.1 hrm.2 (hKN.2 _ hc.1 rfl) (S.2.2.2.2 _ hc.2.2.1) hc.2.2.2.2 hR, S.2.2.2.2 _ hc.2.1, trivial⟩ ⟨PC.blind, fun U hU hW => ⟨rfl, hU, hKN.warm hW⟩⟩ rfl hn hsz hst (lv_room hcat) hdg hf
theorem ru_IN {Qc : Array Value → State → Outcome → State → Prop} {free : Addr → Prop} {mc ms : Nat} (S : CallFix p m c cc nL s args TG own) (hKN : KN G s)
    (hM : Met l y (Cond.code y bytes maxL none :: TG) rm (PC G H (.ref b :: As)) Qc mc ms free) (hc : CNI own index y host bytes maxL n) (hrm : rm.cells = mc ∧ rm.slots = ms)
    (hR : rm.frames + 1 ≤ R.frames ∧ 8 + (maxL + 11) + rm.locals ≤ R.locals)
    (hn : As.length = n) (hsz : ls.size = nL) (hst : st0 = As.reverse ++ .ref b :: rest) (hcat : (rest.map fun v => v.category).sum ≤ 8) (hdg : decode cc pc = .ok (.invokespecial index, 3)) (hf : cells + mc ≤ R.cells ∧ slots + ms ≤ R.slots) :
    va_Run p l e R s m args below meth c H locs cells slots mc ms (F0 m pc ls st0) rest (Qc (Value.ref b :: As).toArray) free :=
  va_runIN (g := F0 m pc ls st0) S hM ⟨va_cnB n S.2.2.2.2 (tg_G hc.2.2.2.1) rfl hrm.1 hrm.2 (hKN.2 _ hc.1 rfl) (S.2.2.2.2 _ hc.2.2.1) hc.2.2.2.2.2 hR, hc.2.2.2.2.1, S.2.2.2.2 _ hc.2.1⟩ ⟨PC.blind, fun U hU hW => ⟨rfl, hU, hKN.warm hW⟩⟩ rfl hn hsz hst (lv_room hcat) hdg hf
end PCalls
/-- what a method that writes leaves: its answer, its cells' new contents, nothing else changed -/
def QMv (G : GT) (w1 : va_W) (A : Nat → Prop) : Array Value → State → Outcome → State → Prop := va_Qv (fun _ : Unit => True) (fun _ t => va_P G.1 classes w1 t.heap) A
def QMi (G : GT) (r : Int32) (w1 : va_W) (A : Nat → Prop) : Array Value → State → Outcome → State → Prop := va_Qi (fun r' (_ : Unit) => r' = r) (fun _ t => va_P G.1 classes w1 t.heap) A
def QMl (G : GT) (r : Int64) (w1 : va_W) (A : Nat → Prop) : Array Value → State → Outcome → State → Prop := va_Ql (fun r' (_ : Unit) => r' = r) (fun _ t => va_P G.1 classes w1 t.heap) A
theorem va_D.addr {A : Nat → Prop} {ws ws' : va_W} (h : va_D A ws) (e : ws'.map Prod.fst = ws.map Prod.fst) : va_D A ws' := by
  have key : ∀ (i : Nat) (q : Nat × va_E), ws'[i]? = some q → ∃ q', ws[i]? = some q' ∧ q'.1 = q.1 := by
    intro i q hq
    have h1 : (ws'.map Prod.fst)[i]? = some q.1 := by rw [List.getElem?_map, hq]; rfl
    rw [e, List.getElem?_map] at h1
    cases hw : ws[i]? with
    | none => rw [hw] at h1; cases h1
    | some q' => rw [hw] at h1; exact ⟨q', rfl, Option.some.inj h1⟩
  refine ⟨fun i j p q hp hq hpq => ?_, fun k q hq => ?_⟩
  · obtain ⟨p', a1, a2⟩ := key i p hp
    obtain ⟨q', b1, b2⟩ := key j q hq
    exact h.1 i j p' q' a1 b1 (by rw [a2, b2, hpq])
  · obtain ⟨q', b1, b2⟩ := key k q hq
    rw [← b2]
    exact h.2 k q' b1
section MCalls
variable {p : Program} {l : Launch} {e : Env} {R : Room} {s : State} {m : MethodId} {args : Array Value} {below : List Frame} {meth : Method} {c : Code} {H H0 : Heap} {locs : List Loc} {cells slots mc ms : Nat} {Q : State → Prop}
variable {pc : Nat} {ls : Array Slot} {rest st0 : List Value} {a : Array Value} {G : GT} {A0 : Nat → Prop} {ws wc wr w1 wn : va_W}
/-- behind a call that writes: the world in an order of my own -/
theorem mu_join (hP : va_P G.1 classes ws H) (hD : va_D A0 ws) (isC isR : List Nat) (hC : isC.map (fun i => ws[i]?) = wc.map some) (hR : isR.map (fun i => ws[i]?) = wr.map some) (hn : va_nd isR = true) (hdis : ∀ i ∈ isR, i ∉ isC) (ha : w1.map Prod.fst = wc.map Prod.fst) (hncC : va_nd isC = true)
    (hF : ∀ q, va_A wc H.size q → A0 q) {H1 : Heap} (hk : ∀ q : Nat, q < H.size → ¬ va_A wc H.size q → H1[q]? = H[q]?) (hP1 : va_P G.1 classes w1 H1) (isN : List Nat) (hN : isN.map (fun i => (wr ++ w1)[i]?) = wn.map some) (hnN : va_nd isN = true) : va_P G.1 classes wn H1 ∧ va_D A0 wn := by
  have hD1 : va_D (va_A wc H.size) w1 := (((hD.sub isC hncC hC).self (sz := H.size))).addr ha
  obtain ⟨h1, h2⟩ := va_join hP hD isC isR hC hR hn hdis hk hF hP1 hD1
  refine ⟨fun k q hq => ?_, h2.sub isN hnN hN⟩
  have h3 : (isN.map (fun i => (wr ++ w1)[i]?))[k]? = some (some q) := by rw [hN, List.getElem?_map, hq]; rfl
  rw [List.getElem?_map] at h3
  cases hi : isN[k]? with
  | none => rw [hi] at h3; cases h3
  | some i => rw [hi] at h3; exact h1 i q (Option.some.inj h3)
theorem mu_v (hr : va_Run p l e R s m args below meth c H locs cells slots mc ms (F0 m pc ls st0) rest (QMv G w1 (va_A wc H.size) a) (va_A wc H.size)) (hP : va_P G.1 classes ws H) (hD : va_D A0 ws) (hS : va_S A0 H0 H locs) (hA : ∀ q, H0.size ≤ q → A0 q)
    (isC isR isN : List Nat) (hC : isC.map (fun i => ws[i]?) = wc.map some) (hR : isR.map (fun i => ws[i]?) = wr.map some) (hn : va_nd isR = true ∧ va_nd isC = true ∧ va_nd isN = true) (hdis : ∀ i ∈ isR, i ∉ isC) (ha : w1.map Prod.fst = wc.map Prod.fst) (hN : isN.map (fun i => (wr ++ w1)[i]?) = wn.map some)
    (kk : ∀ (H : Heap) (locs : List Loc), va_P G.1 classes wn H → va_D A0 wn → va_S A0 H0 H locs → W p l e R s m args below meth c H locs (cells + mc) (slots + ms) Q (F0 m (pc + 3) ls rest)) : W p l e R s m args below meth c H locs cells slots Q (F0 m pc ls st0) := by
  have hF := va_free (wc := wc) hD hS hA isC hC
  refine va_callv hr hS (fun q _ h => hF q h) hF (fun u t H1 locs1 ht hvm hw hB hz1 hk1 hS1 => ?_)
  rw [ht] at hB
  obtain ⟨hP1, hD1⟩ := mu_join hP hD isC isR hC hR hn.1 hdis ha hn.2.1 hF hk1 hB isN hN hn.2.2
  exact kk H1 locs1 hP1 hD1 hS1
theorem mu_i {r : Int32} (hr : va_Run p l e R s m args below meth c H locs cells slots mc ms (F0 m pc ls st0) rest (QMi G r w1 (va_A wc H.size) a) (va_A wc H.size)) (hP : va_P G.1 classes ws H) (hD : va_D A0 ws) (hS : va_S A0 H0 H locs) (hA : ∀ q, H0.size ≤ q → A0 q)
    (isC isR isN : List Nat) (hC : isC.map (fun i => ws[i]?) = wc.map some) (hR : isR.map (fun i => ws[i]?) = wr.map some) (hn : va_nd isR = true ∧ va_nd isC = true ∧ va_nd isN = true) (hdis : ∀ i ∈ isR, i ∉ isC) (ha : w1.map Prod.fst = wc.map Prod.fst) (hN : isN.map (fun i => (wr ++ w1)[i]?) = wn.map some)
    (kk : ∀ (H : Heap) (locs : List Loc), va_P G.1 classes wn H → va_D A0 wn → va_S A0 H0 H locs → W p l e R s m args below meth c H locs (cells + mc) (slots + ms) Q (F0 m (pc + 3) ls (.int r :: rest))) : W p l e R s m args below meth c H locs cells slots Q (F0 m pc ls st0) := by
  have hF := va_free (wc := wc) hD hS hA isC hC
  refine va_calli hr hS (fun q _ h => hF q h) hF (fun r' u t H1 locs1 ht hvm hw hB hz1 hk1 hS1 => ?_)
  rw [ht] at hB
  subst hw
  obtain ⟨hP1, hD1⟩ := mu_join hP hD isC isR hC hR hn.1 hdis ha hn.2.1 hF hk1 hB isN hN hn.2.2
  exact kk H1 locs1 hP1 hD1 hS1
theorem mu_l {r : Int64} (hr : va_Run p l e R s m args below meth c H locs cells slots mc ms (F0 m pc ls st0) rest (QMl G r w1 (va_A wc H.size) a) (va_A wc H.size)) (hP : va_P G.1 classes ws H) (hD : va_D A0 ws) (hS : va_S A0 H0 H locs) (hA : ∀ q, H0.size ≤ q → A0 q)
    (isC isR isN : List Nat) (hC : isC.map (fun i => ws[i]?) = wc.map some) (hR : isR.map (fun i => ws[i]?) = wr.map some) (hn : va_nd isR = true ∧ va_nd isC = true ∧ va_nd isN = true) (hdis : ∀ i ∈ isR, i ∉ isC) (ha : w1.map Prod.fst = wc.map Prod.fst) (hN : isN.map (fun i => (wr ++ w1)[i]?) = wn.map some)
    (kk : ∀ (H : Heap) (locs : List Loc), va_P G.1 classes wn H → va_D A0 wn → va_S A0 H0 H locs → W p l e R s m args below meth c H locs (cells + mc) (slots + ms) Q (F0 m (pc + 3) ls (.long r :: rest))) : W p l e R s m args below meth c H locs cells slots Q (F0 m pc ls st0) := by
  have hF := va_free (wc := wc) hD hS hA isC hC
  refine va_calll hr hS (fun q _ h => hF q h) hF (fun r' u t H1 locs1 ht hvm hw hB hz1 hk1 hS1 => ?_)
  rw [ht] at hB
  subst hw
  obtain ⟨hP1, hD1⟩ := mu_join hP hD isC isR hC hR hn.1 hdis ha hn.2.1 hF hk1 hB isN hN hn.2.2
  exact kk H1 locs1 hP1 hD1 hS1
end MCalls
/-! the table of signs, which nobody writes -/
def sgn (j : Nat) : Int32 := ([31599, 11415, 29671, 29647, 23497, 31183, 31215, 29257, 31727, 31695] : List Int32).getD j 0
def ST (t : Nat) (U : State) (H : Heap) : Prop := va_Z "PostDrawer" "SIGNS" "[I" (.ref t) (fun _ => False) U H ∧ va_T .int t 10 (fun j => .int (sgn j)) (fun _ => False) U H
def PCS (G : GT) (H : Heap) (t : Nat) (av : List Value) : Array Value → State → Prop := va_Pc av (fun U => U.heap = H ∧ KN G U ∧ ST t U U.heap)
theorem PCS.blind {G : GT} {H : Heap} {t : Nat} {av : List Value} : FrameBlind (PCS G H t av) := by
  intro a U g mk h
  obtain ⟨h0, h1, ⟨h2, h3⟩, h4, h5⟩ := h
  exact ⟨h0, h1, ⟨va_K.moved (u := U) (U := U.calling g mk a) (Vm.Alike.refl U.vm) h2, h3.same (s := U) (U := U.calling g mk a) rfl⟩, va_Z.moved (u := U) (U := U.calling g mk a) (Vm.Alike.refl U.vm) h4, va_T.moved (u := U) (U := U.calling g mk a) (Vm.Alike.refl U.vm) h5⟩
section SCalls
variable {p : Program} {l : Launch} {e : Env} {R : Room} {s : State} {m : MethodId} {args : Array Value} {below : List Frame} {meth : Method} {c : Code} {H : Heap} {locs : List Loc} {cells slots : Nat} {Q : State → Prop}
variable {pc : Nat} {ls : Array Slot} {rest st0 : List Value} {a : Array Value} {cc : ByteArray} {nL index n maxL : Nat} {own C host : String} {y : MethodName} {bytes : ByteArray} {ret : Option FieldType} {rm : Room} {G : GT} {b tt : Nat} {As : List Value}
theorem ST.at {s U : State} {t : Nat} {H : Heap} (h : ST t s H) (hU : U.heap = H) (hW : s.WarmedH U.vm) : ST t U U.heap := by
  rw [hU]
  exact ⟨h.1.moved hW.alike, h.2.moved hW.alike⟩
theorem ru_SS {Qc : Array Value → State → Outcome → State → Prop} {free : Addr → Prop} {mc ms : Nat} (S : CallFix p m c cc nL s args TG own) (hKN : KN G s) (hST : ST tt s H)
    (hM : Met l y (Cond.code y bytes maxL ret :: TG) rm (PCS G H tt As) Qc mc ms free) (hc : CS own index y bytes maxL ret n) (hrm : rm.cells = mc ∧ rm.slots = ms)
    (hR : rm.frames + 1 ≤ R.frames ∧ 8 + (maxL + 11) + rm.locals ≤ R.locals)
    (hn : As.length = n) (hsz : ls.size = nL) (hst : st0 = As.reverse ++ rest) (hcat : (rest.map fun v => v.category).sum ≤ 8) (hdg : decode cc pc = .ok (.invokestatic index, 3)) (hf : cells + mc ≤ R.cells ∧ slots + ms ≤ R.slots) :
    va_Run p l e R s m args below meth c H locs cells slots mc ms (F0 m pc ls st0) rest (Qc As.toArray) free :=
  va_runS (g := F0 m pc ls st0) S hM (va_cwS n S.2.2.2.2 (tg_S hc) rfl hrm.1 hrm.2 hc.2.2.2.2 hR) ⟨PCS.blind, fun U hU hW => ⟨rfl, hU, hKN.warm hW, hST.at hU hW⟩⟩ rfl hn hsz hst (lv_room hcat) hdg hf
theorem ru_VS {Qc : Array Value → State → Outcome → State → Prop} {free : Addr → Prop} {mc ms : Nat} (S : CallFix p m c cc nL s args TG own) (hKN : KN G s) (hST : ST tt s H)
    (hM : Met l y (Cond.code y bytes maxL ret :: TG) rm (PCS G H tt (.ref b :: As)) Qc mc ms free) (hc : CV own index C y bytes maxL ret n) (hrm : rm.cells = mc ∧ rm.slots = ms)
    (hR : rm.frames + 1 ≤ R.frames ∧ 8 + (maxL + 11) + rm.locals ≤ R.locals) (hb : ∃ cell : Cell, H[b]? = some cell ∧ cell.vm.isStatics = false ∧ s.vm.findClass C = some cell.cls)
    (hn : As.length = n) (hsz : ls.size = nL) (hst : st0 = As.reverse ++ .ref b :: rest) (hcat : (rest.map fun v => v.category).sum ≤ 8) (hdg : decode cc pc = .ok (.invokevirtual index, 3)) (hf : cells + mc ≤ R.cells ∧ slots + ms ≤ R.slots) :
    va_Run p l e R s m args below meth c H locs cells slots mc ms (F0 m pc ls st0) rest (Qc (Value.ref b :: As).toArray) free :=
  va_runV (g := F0 m pc ls st0) S hM (cwV n S.2.2.2.2 (tg_V hc) rfl hrm.1 hrm.2 hc.2.2.2.2.2 hR) ⟨PCS.blind, hb, fun U hU hW => ⟨rfl, hU, hKN.warm hW, hST.at hU hW⟩⟩ rfl hn hsz hst (lv_room hcat) hdg hf
end SCalls
/-- two array classes of one name are one -/
theorem arr_one {D : va_G} {cl : List vw_C} {tys : List (ClassId × FieldType)} {s : State} (h : va_K D cl tys s) (i j : Nat) {c1 c2 : ClassId} {ty : FieldType} (hi : tys[i]? = some (c1, ty)) (hj : tys[j]? = some (c2, ty)) (hp : ty = .long ∨ ty = .int ∨ ty = .boolean) : c1 = c2 := by
  have h1 := (h.2 i _ hi).2
  have h2 := (h.2 j _ hj).2
  rcases hp with rfl | rfl | rfl
  · exact Option.some.inj (Eq.trans (Eq.symm h1) h2)
  · exact Option.some.inj (Eq.trans (Eq.symm h1) h2)
  · exact Option.some.inj (Eq.trans (Eq.symm h1) h2)
/-- what a constructor leaves: cells that it made are among its new world -/
def QN {S : Type} (G : GT) (w1 : S → va_W) (A : Nat → Prop) : Array Value → State → Outcome → State → Prop := va_Qv (fun _ : S => True) (fun q t => va_P G.1 classes (w1 q) t.heap ∧ va_D A (w1 q)) A
theorem mu_n {p : Program} {l : Launch} {e : Env} {R : Room} {s : State} {m : MethodId} {args : Array Value} {below : List Frame} {meth : Method} {c : Code} {H H0 : Heap} {locs : List Loc} {cells slots mc ms : Nat} {Q : State → Prop}
    {pc : Nat} {ls : Array Slot} {rest st0 : List Value} {a : Array Value} {G : GT} {A0 : Nat → Prop} {ws wc wr : va_W} {S : Type} {w1 : S → va_W} (hr : va_Run p l e R s m args below meth c H locs cells slots mc ms (F0 m pc ls st0) rest (QN G w1 (va_A wc H.size) a) (va_A wc H.size)) (hP : va_P G.1 classes ws H) (hD : va_D A0 ws) (hS : va_S A0 H0 H locs) (hA : ∀ q, H0.size ≤ q → A0 q)
    (isC isR : List Nat) (hC : isC.map (fun i => ws[i]?) = wc.map some) (hR : isR.map (fun i => ws[i]?) = wr.map some) (hn : va_nd isR = true) (hdis : ∀ i ∈ isR, i ∉ isC)
    (kk : ∀ (q : S) (H : Heap) (locs : List Loc), va_P G.1 classes (wr ++ w1 q) H → va_D A0 (wr ++ w1 q) → va_S A0 H0 H locs → W p l e R s m args below meth c H locs (cells + mc) (slots + ms) Q (F0 m (pc + 3) ls rest)) : W p l e R s m args below meth c H locs cells slots Q (F0 m pc ls st0) := by
  have hF := va_free (wc := wc) hD hS hA isC hC
  refine va_callv hr hS (fun q _ h => hF q h) hF (fun u t H1 locs1 ht hvm hw hB hz1 hk1 hS1 => ?_)
  obtain ⟨hP1, hD1⟩ := hB
  rw [ht] at hP1
  obtain ⟨h1, h2⟩ := va_join hP hD isC isR hC hR hn hdis hk1 hF hP1 hD1
  exact kk u H1 locs1 h1 h2 hS1
/-! the script, which nobody writes -/
def PCX (G : GT) (H : Heap) (b L : Nat) (xs : Nat → Int32) (av : List Value) : Array Value → State → Prop := va_Pc av (fun U => U.heap = H ∧ KN G U ∧ va_X b L xs U U.heap)
theorem PCX.blind {G : GT} {H : Heap} {b L : Nat} {xs : Nat → Int32} {av : List Value} : FrameBlind (PCX G H b L xs av) := by
  intro a U g mk h
  obtain ⟨h0, h1, ⟨h2, h3⟩, h4⟩ := h
  exact ⟨h0, h1, ⟨va_K.moved (u := U) (U := U.calling g mk a) (Vm.Alike.refl U.vm) h2, h3.same (s := U) (U := U.calling g mk a) rfl⟩, va_X.moved (u := U) (U := U.calling g mk a) (Vm.Alike.refl U.vm) h4⟩
theorem ru_SX {p : Program} {l : Launch} {e : Env} {R : Room} {s : State} {m : MethodId} {args : Array Value} {below : List Frame} {meth : Method} {c : Code} {H : Heap} {locs : List Loc} {cells slots : Nat}
    {pc : Nat} {ls : Array Slot} {rest st0 : List Value} {cc : ByteArray} {nL index n maxL : Nat} {own : String} {y : MethodName} {bytes : ByteArray} {ret : Option FieldType} {rm : Room} {G : GT} {b L : Nat} {xs : Nat → Int32} {As : List Value}
    {Qc : Array Value → State → Outcome → State → Prop} {free : Addr → Prop} {mc ms : Nat} (S : CallFix p m c cc nL s args TG own) (hKN : KN G s) (hX : va_X b L xs s H)
    (hM : Met l y (Cond.code y bytes maxL ret :: TG) rm (PCX G H b L xs As) Qc mc ms free) (hc : CS own index y bytes maxL ret n) (hrm : rm.cells = mc ∧ rm.slots = ms)
    (hR : rm.frames + 1 ≤ R.frames ∧ 8 + (maxL + 11) + rm.locals ≤ R.locals)
    (hn : As.length = n) (hsz : ls.size = nL) (hst : st0 = As.reverse ++ rest) (hcat : (rest.map fun v => v.category).sum ≤ 8) (hdg : decode cc pc = .ok (.invokestatic index, 3)) (hf : cells + mc ≤ R.cells ∧ slots + ms ≤ R.slots) :
    va_Run p l e R s m args below meth c H locs cells slots mc ms (F0 m pc ls st0) rest (Qc As.toArray) free :=
  va_runS (g := F0 m pc ls st0) S hM (va_cwS n S.2.2.2.2 (tg_S hc) rfl hrm.1 hrm.2 hc.2.2.2.2 hR) ⟨PCX.blind, fun U hU hW => ⟨rfl, hU, hKN.warm hW, by rw [hU]; exact hX.moved hW.alike⟩⟩ rfl hn hsz hst (lv_room hcat) hdg hf

