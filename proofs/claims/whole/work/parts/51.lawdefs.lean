/-- the two objects, their states related -/
def Wd (G : GT) (A : Nat → Prop) (x mm : Nat) (H : Heap) : Prop := ∃ (d1 : Nat) (d2 : Nat) (v1 : Nat) (v2 : Nat) (v3 : Nat) (o1 : Nat) (t1 : Nat) (sd : Int64) (k : Int32) (n : Nat) (fb : Int32) (f : Nat → Int64) (g : Nat → Int32) (h : Nat → Int32) (q : Nat) (ns : Int64) (B : Nat) (o2 : Nat) (sO : Int64) (kO : Int32) (nO : Nat) (bO : Int32) (fO : Nat → Int64) (t2 : Nat) (sT : Int64) (kT : Int32) (nT : Nat) (bT : Int32) (fT : Nat → Int64) (w1 : Nat) (w2 : Nat) (w3 : Nat) (sdM : Int64) (kM : Int32), va_P G.1 classes [(x, .inr (0, [.ref d1, .ref v1, .ref o1, .ref t1, .long ns, .int (nI B)])), (d1, .inr (1, [.ref d2, .long sd, .int k, .int (nI n), .int fb])), (d2, .inl (G.2.1, 16, .inr (.inl f))), (v1, .inr (2, [.ref v2, .ref v3, .int (nI q)])), (v2, .inl (G.2.2.1, 100, .inl g)), (v3, .inl (G.2.2.2, 100, .inl h)), (o1, .inr (1, [.ref o2, .long sO, .int kO, .int (nI nO), .int bO])), (o2, .inl (G.2.1, 16, .inr (.inl fO))), (t1, .inr (1, [.ref t2, .long sT, .int kT, .int (nI nT), .int bT])), (t2, .inl (G.2.1, 16, .inr (.inl fT))), (mm, .inr (3, [.int 0, .long ns, .long sdM, .int (nI n), .int kM, .int (nI B), .int (nI q), .ref w1, .ref w2, .ref w3])), (w1, .inl (G.2.2.1, 100, .inl g)), (w2, .inl (G.2.2.2, 100, .inl h)), (w3, .inl (G.2.2.1, 10, .inl ink0))] H ∧ va_D A [(x, .inr (0, [.ref d1, .ref v1, .ref o1, .ref t1, .long ns, .int (nI B)])), (d1, .inr (1, [.ref d2, .long sd, .int k, .int (nI n), .int fb])), (d2, .inl (G.2.1, 16, .inr (.inl f))), (v1, .inr (2, [.ref v2, .ref v3, .int (nI q)])), (v2, .inl (G.2.2.1, 100, .inl g)), (v3, .inl (G.2.2.2, 100, .inl h)), (o1, .inr (1, [.ref o2, .long sO, .int kO, .int (nI nO), .int bO])), (o2, .inl (G.2.1, 16, .inr (.inl fO))), (t1, .inr (1, [.ref t2, .long sT, .int kT, .int (nI nT), .int bT])), (t2, .inl (G.2.1, 16, .inr (.inl fT))), (mm, .inr (3, [.int 0, .long ns, .long sdM, .int (nI n), .int kM, .int (nI B), .int (nI q), .ref w1, .ref w2, .ref w3])), (w1, .inl (G.2.2.1, 100, .inl g)), (w2, .inl (G.2.2.2, 100, .inl h)), (w3, .inl (G.2.2.1, 10, .inl ink0))] ∧ Rel n sd k fb f sdM kM g q B ∧ nO ≤ 16 ∧ nT ≤ 16
/-- what holds all along the law's walk -/
def LC (p : Program) (s : State) (m : MethodId) (meth : Method) (c : Code) (b L : Nat) (xs : Nat → Int32) (G : GT) (A : Nat → Prop) (tt : Nat) : Prop :=
  p.tables.exec = Jvm.exec ∧ c.code = code ∧ meth.sig.returnType = ret ∧ c.maxLocals = 4 ∧ s.vm.findClass R_L = some m.cls ∧ (∀ w ∈ TG, w.before #[Value.ref b] s = true) ∧ KN G s ∧ va_X b L xs s s.heap ∧ b < s.heap.size ∧ meth.locks = false ∧ (∀ q : Nat, s.heap.size ≤ q → A q) ∧ ¬ A b ∧ va_Z "PostDrawer" "SIGNS" "[I" (.ref tt) A s s.heap ∧ va_T .int tt 10 (fun j => .int (sgn j)) A s s.heap
def c0 (L : Nat) (xs : Nat → Int32) : Int32 := if Int32.ofNat L ≤ 0 then 0 else xs 0
set_option maxHeartbeats 4000000 in
set_option maxRecDepth 100000 in
theorem c_L_cell (l : Launch) (G : GT) (H : Heap) (b L : Nat) (xs : Nat → Int32) (hL : L ≤ 2561) : Met l y_L_cell (Cond.code y_L_cell b_L_cell 2 (some .int) :: TG) ({ frames := 0, cells := 0, slots := 0, locals := 0 }) (PCX G H b L xs [.ref b, .int 0]) (QcRead (c0 L xs)) 0 0 (fun _ => False) := by
  refine Met.ofW (cc := b_L_cell) (maxL := 2) (ret := (some .int)) (by decide) rfl ?_
  intro p e s m args below meth c s₁ B hml hv
  obtain ⟨rfl, hH, hKN, hX⟩ := hv
  subst hH
  have hx := B.exec
  have hb := B.bytes
  have hr := B.returns
  have hts := atoms_spec (ws := (Cond.code y_L_cell b_L_cell 2 (some .int) :: TG)) B.pre
  have ht : ∀ w ∈ TG, w.before _ s = true := fun w h => hts w (List.mem_cons_of_mem _ h)
  have hown : s.vm.findClass R_L = some m.cls := findClass_of_methodNamed B.named
  have hlocks := B.notSynchronized
  have hK := hKN.1
  have hl := lv_entry ([.ref b, .int 0]) (n := 2) (Nat.le_of_ble_eq_true rfl)
  rw [lg_entry_eq]
  generalize (lg_sl ([.ref b, .int 0]) ++ List.replicate (2 - (lg_sl ([.ref b, .int 0])).length) Slot.unset).toArray = ls at hl ⊢
  have hl : lv_has ls 2 [(0, .ref b), (1, .int 0)] := hl
  have hS : va_S (fun _ => False) s.heap s.heap [] := va_S.rf
  have hbl : b < s.heap.size := by
    obtain ⟨scr, h1, -⟩ := hX
    exact (Array.getElem?_eq_some_iff.mp h1).1
  refine lv_iload_n hx hb d_L_cell_0 rfl (lv_at hl 1 rfl) ?_
  refine lv_aload_n hx hb d_L_cell_1 rfl (lv_at hl 0 rfl) ?_
  refine va_slen hx hb hX hbl (fun z => z) hS d_L_cell_2 ?_
  refine lv_icmp_ge (tgt := 12) hx hb d_L_cell_3 (by decide) (fun c1 => ?_) (fun c1 => ?_)
  · refine lv_iconst (v := 0) hx hb d_L_cell_12 (by decide) ?_
    exact W.iret (v := 0) hx hb hr (fun t h9 _ => ⟨congrArg (fun z => Outcome.returned (some (Value.int z))) (by unfold c0; rw [if_pos c1]), h9⟩) (fun _ h => nomatch h) d_L_cell_13
  · refine lv_aload_n hx hb d_L_cell_6 rfl (lv_at hl 0 rfl) ?_
    refine lv_iload_n hx hb d_L_cell_7 rfl (lv_at hl 1 rfl) ?_
    refine va_sld hx hb hX hbl (fun z => z) hS (i := 0) (vp_in_nI (n := 0) (show 0 < L from Nat.pos_of_ne_zero (fun z => c1 (by rw [z]; decide))) (by omega)) d_L_cell_8 ?_
    refine lv_goto (tgt := 13) hx hb d_L_cell_9 (by decide) ?_
    exact W.iret (v := (xs 0)) hx hb hr (fun t h9 _ => ⟨congrArg (fun z => Outcome.returned (some (Value.int z))) (by unfold c0; rw [if_neg c1]), h9⟩) (fun _ h => nomatch h) d_L_cell_13
