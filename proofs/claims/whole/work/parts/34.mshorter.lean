theorem wo_or (g h : Nat → Int32) (q : Nat) (b : Int32) : ∀ kk j, wo g h q b kk j = -1 ∨ ∃ k, j ≤ k ∧ k < j + kk ∧ wo g h q b kk j = nI k
  | 0, j => Or.inl rfl
  | kk + 1, j => by
    have ih := wo_or g h q b kk (j + 1)
    have key : wo g h q b kk (j + 1) = -1 ∨ ∃ k, j ≤ k ∧ k < j + (kk + 1) ∧ wo g h q b kk (j + 1) = nI k := by
      rcases ih with e | ⟨k, h1, h2, h3⟩
      · exact Or.inl e
      · exact Or.inr ⟨k, by omega, by omega, h3⟩
    unfold wo
    split
    · split
      · exact key
      · split
        · exact key
        · exact Or.inr ⟨j, by omega, by omega, rfl⟩
    · exact key
/-- the reference's while loop, by fuel: none where it doesn't end within it -/
def msO (g h : Nat → Int32) (q n : Nat) : Nat → Int32 → Nat → Option Int32
  | 0, _, _ => none
  | t + 1, b, j => if wo g h q b (n - j) j = -1 then (if j = 0 then some b else msO g h q n t b 0) else msO g h q n t (b - ((1 : Int32) <<< (wo g h q b (n - j) j &&& 31))) ((wo g h q b (n - j) j).toNatClampNeg + 1)
theorem msO_s (g h : Nat → Int32) (q n t : Nat) (b : Int32) (j : Nat) : msO g h q n (t + 1) b j = if wo g h q b (n - j) j = -1 then (if j = 0 then some b else msO g h q n t b 0) else msO g h q n t (b - ((1 : Int32) <<< (wo g h q b (n - j) j &&& 31))) ((wo g h q b (n - j) j).toNatClampNeg + 1) := rfl
def mshR (g h : Nat → Int32) (q n t : Nat) : Option Int32 := if fn_M_stays q g h (((1 : Int32) <<< (nI n &&& 31)) - 1) = 0 then some (((1 : Int32) <<< (nI n &&& 31)) - 1) else msO g h q n t (((1 : Int32) <<< (nI n &&& 31)) - 1) 0
set_option maxHeartbeats 4000000 in
set_option maxRecDepth 100000 in
theorem c_M_shorter_no (l : Launch) (G : GT) (H : Heap) (a : Nat) (w1 : Nat) (w2 : Nat) (w3 : Nat) (ns : Int64) (sd : Int64) (n : Nat) (k : Int32) (lb : Int32) (q : Nat) (g : Nat → Int32) (h : Nat → Int32) (ik : Nat → Int32) (hP : va_P G.1 classes [(a, .inr (3, [.int 0, .long ns, .long sd, .int (nI n), .int k, .int lb, .int (nI q), .ref w1, .ref w2, .ref w3])), (w1, .inl (G.2.2.1, 100, .inl g)), (w2, .inl (G.2.2.2, 100, .inl h)), (w3, .inl (G.2.2.1, 10, .inl ik))] H) (hD0 : va_D (fun _ => True) [(a, .inr (3, [.int 0, .long ns, .long sd, .int (nI n), .int k, .int lb, .int (nI q), .ref w1, .ref w2, .ref w3])), (w1, .inl (G.2.2.1, 100, .inl g)), (w2, .inl (G.2.2.2, 100, .inl h)), (w3, .inl (G.2.2.1, 10, .inl ik))]) (hn : n ≤ 16) (hq : q ≤ 100) (hE : nI n = 0) : Met l y_M_shorter (Cond.code y_M_shorter b_M_shorter 4 (some .int) :: TG) ({ frames := 0, cells := 0, slots := 0, locals := 0 }) (PC G H [.ref a]) (QMi G (-13) [(a, .inr (3, [.int 0, .long ns, .long sd, .int (nI n), .int k, .int lb, .int (nI q), .ref w1, .ref w2, .ref w3])), (w1, .inl (G.2.2.1, 100, .inl g)), (w2, .inl (G.2.2.2, 100, .inl h)), (w3, .inl (G.2.2.1, 10, .inl ik))] (va_A [(a, .inr (3, [.int 0, .long ns, .long sd, .int (nI n), .int k, .int lb, .int (nI q), .ref w1, .ref w2, .ref w3])), (w1, .inl (G.2.2.1, 100, .inl g)), (w2, .inl (G.2.2.2, 100, .inl h)), (w3, .inl (G.2.2.1, 10, .inl ik))] H.size)) 0 0 (va_A [(a, .inr (3, [.int 0, .long ns, .long sd, .int (nI n), .int k, .int lb, .int (nI q), .ref w1, .ref w2, .ref w3])), (w1, .inl (G.2.2.1, 100, .inl g)), (w2, .inl (G.2.2.2, 100, .inl h)), (w3, .inl (G.2.2.1, 10, .inl ik))] H.size) := by
  refine Met.ofW (cc := b_M_shorter) (maxL := 4) (ret := (some .int)) (by decide) rfl ?_
  intro p e s m args below meth c s₁ B hml hv
  obtain ⟨rfl, hH, hKN⟩ := hv
  subst hH
  have hx := B.exec
  have hb := B.bytes
  have hr := B.returns
  have hts := atoms_spec (ws := (Cond.code y_M_shorter b_M_shorter 4 (some .int) :: TG)) B.pre
  have ht : ∀ w ∈ TG, w.before _ s = true := fun w h => hts w (List.mem_cons_of_mem _ h)
  have hown : s.vm.findClass R_M = some m.cls := findClass_of_methodNamed B.named
  have hlocks := B.notSynchronized
  have hK := hKN.1
  have hl := lv_entry ([.ref a]) (n := 4) (Nat.le_of_ble_eq_true rfl)
  rw [lg_entry_eq]
  generalize (lg_sl ([.ref a]) ++ List.replicate (4 - (lg_sl ([.ref a])).length) Slot.unset).toArray = ls at hl ⊢
  have hl : lv_has ls 4 [(0, .ref a)] := hl
  have hD := hD0.self (sz := s.heap.size)
  generalize hAe : va_A [(a, .inr (3, [.int 0, .long ns, .long sd, .int (nI n), .int k, .int lb, .int (nI q), .ref w1, .ref w2, .ref w3])), (w1, .inl (G.2.2.1, 100, .inl g)), (w2, .inl (G.2.2.2, 100, .inl h)), (w3, .inl (G.2.2.1, 10, .inl ik))] s.heap.size = A at hD ⊢
  have hA : ∀ q : Nat, s.heap.size ≤ q → A q := fun q h => by rw [← hAe]; exact Or.inr h
  have hS : va_S A s.heap s.heap [] := va_S.rf
  refine lv_aload_n hx hb d_M_shorter_0 rfl (lv_at hl 0 rfl) ?_
  refine lv_iconst (v := 0) hx hb d_M_shorter_1 (by decide) ?_
  refine va_put (D := G.1) (ci := 3) (v := .int 0) (ty := .int) (C := R_M) (T := F_M) (N := 10) hx hb ht in_M t_M tk_M n_M hown hK hP hD hS 0 rfl rfl 0 (by decide) (ht _ kf_M_24) (fun _ h9 => h9) rfl (by decide +kernel) rfl rfl (Nat.le_of_ble_eq_true rfl) d_M_shorter_2 (fun H locs hP hD hS => ?_)
  have hP : va_P G.1 classes [(a, .inr (3, [.int 0, .long ns, .long sd, .int (nI n), .int k, .int lb, .int (nI q), .ref w1, .ref w2, .ref w3])), (w1, .inl (G.2.2.1, 100, .inl g)), (w2, .inl (G.2.2.2, 100, .inl h)), (w3, .inl (G.2.2.1, 10, .inl ik))] H := hP
  have hD : va_D A [(a, .inr (3, [.int 0, .long ns, .long sd, .int (nI n), .int k, .int lb, .int (nI q), .ref w1, .ref w2, .ref w3])), (w1, .inl (G.2.2.1, 100, .inl g)), (w2, .inl (G.2.2.2, 100, .inl h)), (w3, .inl (G.2.2.1, 10, .inl ik))] := hD
  refine lv_aload_n hx hb d_M_shorter_5 rfl (lv_at hl 0 rfl) ?_
  refine va_get (D := G.1) (ci := 3) (v := .int (nI n)) (C := R_M) (T := F_M) (N := 10) hx hb ht in_M hown hK hP 0 rfl rfl 3 (by decide) (ht _ kf_M_62) (fun _ h9 => h9) rfl d_M_shorter_6 ?_
  refine lv_if_ne (tgt := 15) hx hb d_M_shorter_9 (by decide) (fun c1 => ?_) (fun c1 => ?_)
  · exact absurd hE c1
  · refine lv_bipush (v := (-13)) hx hb d_M_shorter_12 (by decide) ?_
    exact W.iret (v := (-13)) hx hb hr (fun t h9 _ => ⟨⟨(-13), (), rfl, rfl, by show va_P _ _ _ t.heap; rw [h9]; exact hP⟩, hS.F h9⟩) hS.2.2 d_M_shorter_14
set_option maxHeartbeats 4000000 in
set_option maxRecDepth 100000 in
theorem c_M_shorter (l : Launch) (G : GT) (H : Heap) (a : Nat) (w1 : Nat) (w2 : Nat) (w3 : Nat) (ns : Int64) (sd : Int64) (n : Nat) (k : Int32) (lb : Int32) (q : Nat) (g : Nat → Int32) (h : Nat → Int32) (ik : Nat → Int32) (t0 : Nat) (r : Int32) (hP : va_P G.1 classes [(a, .inr (3, [.int 0, .long ns, .long sd, .int (nI n), .int k, .int lb, .int (nI q), .ref w1, .ref w2, .ref w3])), (w1, .inl (G.2.2.1, 100, .inl g)), (w2, .inl (G.2.2.2, 100, .inl h)), (w3, .inl (G.2.2.1, 10, .inl ik))] H) (hD0 : va_D (fun _ => True) [(a, .inr (3, [.int 0, .long ns, .long sd, .int (nI n), .int k, .int lb, .int (nI q), .ref w1, .ref w2, .ref w3])), (w1, .inl (G.2.2.1, 100, .inl g)), (w2, .inl (G.2.2.2, 100, .inl h)), (w3, .inl (G.2.2.1, 10, .inl ik))]) (hn : n ≤ 16) (hq : q ≤ 100) (hE : ¬ nI n = 0) (hms : mshR g h q n t0 = some r) : Met l y_M_shorter (Cond.code y_M_shorter b_M_shorter 4 (some .int) :: TG) ({ frames := 3, cells := 0, slots := 0, locals := 69 }) (PC G H [.ref a]) (QMi G (co r 16) [(a, .inr (3, [.int 0, .long ns, .long sd, .int (nI n), .int k, .int r, .int (nI q), .ref w1, .ref w2, .ref w3])), (w1, .inl (G.2.2.1, 100, .inl g)), (w2, .inl (G.2.2.2, 100, .inl h)), (w3, .inl (G.2.2.1, 10, .inl ik))] (va_A [(a, .inr (3, [.int 0, .long ns, .long sd, .int (nI n), .int k, .int lb, .int (nI q), .ref w1, .ref w2, .ref w3])), (w1, .inl (G.2.2.1, 100, .inl g)), (w2, .inl (G.2.2.2, 100, .inl h)), (w3, .inl (G.2.2.1, 10, .inl ik))] H.size)) 0 0 (va_A [(a, .inr (3, [.int 0, .long ns, .long sd, .int (nI n), .int k, .int lb, .int (nI q), .ref w1, .ref w2, .ref w3])), (w1, .inl (G.2.2.1, 100, .inl g)), (w2, .inl (G.2.2.2, 100, .inl h)), (w3, .inl (G.2.2.1, 10, .inl ik))] H.size) := by
  refine Met.ofW (cc := b_M_shorter) (maxL := 4) (ret := (some .int)) (by decide) rfl ?_
  intro p e s m args below meth c s₁ B hml hv
  obtain ⟨rfl, hH, hKN⟩ := hv
  subst hH
  have hx := B.exec
  have hb := B.bytes
  have hr := B.returns
  have hts := atoms_spec (ws := (Cond.code y_M_shorter b_M_shorter 4 (some .int) :: TG)) B.pre
  have ht : ∀ w ∈ TG, w.before _ s = true := fun w h => hts w (List.mem_cons_of_mem _ h)
  have hown : s.vm.findClass R_M = some m.cls := findClass_of_methodNamed B.named
  have hlocks := B.notSynchronized
  have hK := hKN.1
  have hl := lv_entry ([.ref a]) (n := 4) (Nat.le_of_ble_eq_true rfl)
  rw [lg_entry_eq]
  generalize (lg_sl ([.ref a]) ++ List.replicate (4 - (lg_sl ([.ref a])).length) Slot.unset).toArray = ls at hl ⊢
  have hl : lv_has ls 4 [(0, .ref a)] := hl
  have hD := hD0.self (sz := s.heap.size)
  generalize hAe : va_A [(a, .inr (3, [.int 0, .long ns, .long sd, .int (nI n), .int k, .int lb, .int (nI q), .ref w1, .ref w2, .ref w3])), (w1, .inl (G.2.2.1, 100, .inl g)), (w2, .inl (G.2.2.2, 100, .inl h)), (w3, .inl (G.2.2.1, 10, .inl ik))] s.heap.size = A at hD ⊢
  have hA : ∀ q : Nat, s.heap.size ≤ q → A q := fun q h => by rw [← hAe]; exact Or.inr h
  have hS : va_S A s.heap s.heap [] := va_S.rf
  refine lv_aload_n hx hb d_M_shorter_0 rfl (lv_at hl 0 rfl) ?_
  refine lv_iconst (v := 0) hx hb d_M_shorter_1 (by decide) ?_
  refine va_put (D := G.1) (ci := 3) (v := .int 0) (ty := .int) (C := R_M) (T := F_M) (N := 10) hx hb ht in_M t_M tk_M n_M hown hK hP hD hS 0 rfl rfl 0 (by decide) (ht _ kf_M_24) (fun _ h9 => h9) rfl (by decide +kernel) rfl rfl (Nat.le_of_ble_eq_true rfl) d_M_shorter_2 (fun H locs hP hD hS => ?_)
  have hP : va_P G.1 classes [(a, .inr (3, [.int 0, .long ns, .long sd, .int (nI n), .int k, .int lb, .int (nI q), .ref w1, .ref w2, .ref w3])), (w1, .inl (G.2.2.1, 100, .inl g)), (w2, .inl (G.2.2.2, 100, .inl h)), (w3, .inl (G.2.2.1, 10, .inl ik))] H := hP
  have hD : va_D A [(a, .inr (3, [.int 0, .long ns, .long sd, .int (nI n), .int k, .int lb, .int (nI q), .ref w1, .ref w2, .ref w3])), (w1, .inl (G.2.2.1, 100, .inl g)), (w2, .inl (G.2.2.2, 100, .inl h)), (w3, .inl (G.2.2.1, 10, .inl ik))] := hD
  refine lv_aload_n hx hb d_M_shorter_5 rfl (lv_at hl 0 rfl) ?_
  refine va_get (D := G.1) (ci := 3) (v := .int (nI n)) (C := R_M) (T := F_M) (N := 10) hx hb ht in_M hown hK hP 0 rfl rfl 3 (by decide) (ht _ kf_M_62) (fun _ h9 => h9) rfl d_M_shorter_6 ?_
  refine lv_if_ne (tgt := 15) hx hb d_M_shorter_9 (by decide) (fun c1 => ?_) (fun c1 => ?_)
  · refine lv_iconst (v := 1) hx hb d_M_shorter_15 (by decide) ?_
    refine lv_aload_n hx hb d_M_shorter_16 rfl (lv_at hl 0 rfl) ?_
    refine va_get (D := G.1) (ci := 3) (v := .int (nI n)) (C := R_M) (T := F_M) (N := 10) hx hb ht in_M hown hK hP 0 rfl rfl 3 (by decide) (ht _ kf_M_62) (fun _ h9 => h9) rfl d_M_shorter_17 ?_
    refine lv_ishl hx hb d_M_shorter_20 ?_
    refine lv_iconst (v := 1) hx hb d_M_shorter_21 (by decide) ?_
    refine lv_isub hx hb d_M_shorter_22 ?_
    refine lv_istore_n (lv' := [(1, .int (((1 : Int32) <<< ((nI n) &&& 31)) - 1)), (0, .ref a)]) hx hb d_M_shorter_23 rfl hl (by decide) rfl (fun ls hl => ?_)
    refine lv_aload_n hx hb d_M_shorter_24 rfl (lv_at hl 1 rfl) ?_
    refine lv_iload_n hx hb d_M_shorter_25 rfl (lv_at hl 0 rfl) ?_
    refine pr_i (ru_V (b := a) (As := [.int (((1 : Int32) <<< ((nI n) &&& 31)) - 1)]) (rest := []) ⟨hx, hb, hml, hown, ht⟩ hKN (c_M_stays l G _ a w1 w2 w3 ns sd n k lb q g h ik (((1 : Int32) <<< ((nI n) &&& 31)) - 1) (hP.sub [0, 1, 2, 3] rfl) hn hq) kc_M_82 ⟨rfl, rfl⟩ ⟨Nat.le_of_ble_eq_true rfl, Nat.le_of_ble_eq_true rfl⟩ (va_recv hK hP (ci := 3) (q0 := 0) rfl rfl) rfl hl.1 rfl (Nat.le_of_ble_eq_true rfl) d_M_shorter_26 ⟨Nat.le_of_ble_eq_true rfl, Nat.le_of_ble_eq_true rfl⟩) ?_
    refine lv_if_eq (tgt := 76) hx hb d_M_shorter_29 (by decide) (fun c2 => ?_) (fun c2 => ?_)
    · have e9 : ((1 : Int32) <<< (nI n &&& 31)) - 1 = r := Option.some.inj (by rw [← hms]; unfold mshR; rw [if_pos c2])
      refine lv_aload_n hx hb d_M_shorter_76 rfl (lv_at hl 1 rfl) ?_
      refine lv_iload_n hx hb d_M_shorter_77 rfl (lv_at hl 0 rfl) ?_
      refine va_put (D := G.1) (ci := 3) (v := .int (((1 : Int32) <<< ((nI n) &&& 31)) - 1)) (ty := .int) (C := R_M) (T := F_M) (N := 10) hx hb ht in_M t_M tk_M n_M hown hK hP hD hS 0 rfl rfl 5 (by decide) (ht _ kf_M_65) (fun _ h9 => h9) rfl (by decide +kernel) rfl rfl (Nat.le_of_ble_eq_true rfl) d_M_shorter_78 (fun H locs hP hD hS => ?_)
      have hP : va_P G.1 classes [(a, .inr (3, [.int 0, .long ns, .long sd, .int (nI n), .int k, .int (((1 : Int32) <<< ((nI n) &&& 31)) - 1), .int (nI q), .ref w1, .ref w2, .ref w3])), (w1, .inl (G.2.2.1, 100, .inl g)), (w2, .inl (G.2.2.2, 100, .inl h)), (w3, .inl (G.2.2.1, 10, .inl ik))] H := hP
      have hD : va_D A [(a, .inr (3, [.int 0, .long ns, .long sd, .int (nI n), .int k, .int (((1 : Int32) <<< ((nI n) &&& 31)) - 1), .int (nI q), .ref w1, .ref w2, .ref w3])), (w1, .inl (G.2.2.1, 100, .inl g)), (w2, .inl (G.2.2.2, 100, .inl h)), (w3, .inl (G.2.2.1, 10, .inl ik))] := hD
      refine lv_iload_n hx hb d_M_shorter_81 rfl (lv_at hl 0 rfl) ?_
      refine pr_i (ru_S (As := [.int (((1 : Int32) <<< ((nI n) &&& 31)) - 1)]) (rest := []) ⟨hx, hb, hml, hown, ht⟩ hKN (c_M_countOf l G _ (((1 : Int32) <<< ((nI n) &&& 31)) - 1)) kc_M_90 ⟨rfl, rfl⟩ ⟨Nat.le_of_ble_eq_true rfl, Nat.le_of_ble_eq_true rfl⟩ rfl hl.1 rfl (Nat.le_of_ble_eq_true rfl) d_M_shorter_82 ⟨Nat.le_of_ble_eq_true rfl, Nat.le_of_ble_eq_true rfl⟩) ?_
      exact W.iret (v := (co (((1 : Int32) <<< ((nI n) &&& 31)) - 1) 16)) hx hb hr (fun t h9 _ => ⟨⟨(co (((1 : Int32) <<< ((nI n) &&& 31)) - 1) 16), (), rfl, (by rw [e9]), by show va_P _ _ _ t.heap; rw [h9]; exact (by rw [← e9]; exact hP)⟩, hS.F h9⟩) hS.2.2 d_M_shorter_85
    · refine lv_iconst (v := 0) hx hb d_M_shorter_32 (by decide) ?_
      refine lv_istore_n (lv' := [(2, .int 0), (1, .int (((1 : Int32) <<< ((nI n) &&& 31)) - 1)), (0, .ref a)]) hx hb d_M_shorter_33 rfl hl (by decide) rfl (fun ls hl => ?_)
      have hv0 : msO g h q n t0 (((1 : Int32) <<< (nI n &&& 31)) - 1) 0 = some r := by rw [← hms]; unfold mshR; rw [if_neg c2]
      have loop : ∀ (t : Nat) (x : Int32) (j : Nat) (H : Heap) (locs : List Loc) (ls : Array Slot), j ≤ n → msO g h q n t x j = some r → va_P G.1 classes [(a, .inr (3, [.int 0, .long ns, .long sd, .int (nI n), .int k, .int lb, .int (nI q), .ref w1, .ref w2, .ref w3])), (w1, .inl (G.2.2.1, 100, .inl g)), (w2, .inl (G.2.2.2, 100, .inl h)), (w3, .inl (G.2.2.1, 10, .inl ik))] H → va_D A [(a, .inr (3, [.int 0, .long ns, .long sd, .int (nI n), .int k, .int lb, .int (nI q), .ref w1, .ref w2, .ref w3])), (w1, .inl (G.2.2.1, 100, .inl g)), (w2, .inl (G.2.2.2, 100, .inl h)), (w3, .inl (G.2.2.1, 10, .inl ik))] → va_S A s.heap H locs → lv_has ls 4 [(0, .ref a), (1, .int x), (2, .int (nI j))] → W p l e (headSpec (Cond.code y_M_shorter b_M_shorter 4 (some .int) :: TG) ({ frames := 3, cells := 0, slots := 0, locals := 69 })).room s m ([.ref a] : List Value).toArray below meth c H locs 0 0 (MQ below (QMi G (co r 16) [(a, .inr (3, [.int 0, .long ns, .long sd, .int (nI n), .int k, .int r, .int (nI q), .ref w1, .ref w2, .ref w3])), (w1, .inl (G.2.2.1, 100, .inl g)), (w2, .inl (G.2.2.2, 100, .inl h)), (w3, .inl (G.2.2.1, 10, .inl ik))] A) ([.ref a] : List Value).toArray s 0 0 A) (F0 m 34 ls []) := by
        intro t
        induction t with
        | zero =>
          intro x j H locs ls hjn hv
          exact absurd hv (by unfold msO; exact fun e => nomatch e)
        | succ t ih =>
          intro x j H locs ls hjn hv hP hD hS hl
          refine lv_iload_n hx hb d_M_shorter_34 rfl (lv_at hl 2 rfl) ?_
          refine lv_if_lt (tgt := 76) hx hb d_M_shorter_35 (by decide) (fun c3 => ?_) (fun c3 => ?_)
          · exact absurd c3 (nI_pos (show j < 2 ^ 31 by omega))
          · refine lv_aload_n hx hb d_M_shorter_38 rfl (lv_at hl 0 rfl) ?_
            refine lv_iload_n hx hb d_M_shorter_39 rfl (lv_at hl 1 rfl) ?_
            refine lv_iload_n hx hb d_M_shorter_40 rfl (lv_at hl 2 rfl) ?_
            refine pr_i (ru_V (b := a) (As := [.int x, .int (nI j)]) (rest := []) ⟨hx, hb, hml, hown, ht⟩ hKN (c_M_without l G _ a w1 w2 w3 ns sd n k lb q g h ik x j (hP.sub [0, 1, 2, 3] rfl) hn hq (show j ≤ n by omega)) kc_M_86 ⟨rfl, rfl⟩ ⟨Nat.le_of_ble_eq_true rfl, Nat.le_of_ble_eq_true rfl⟩ (va_recv hK hP (ci := 3) (q0 := 0) rfl rfl) rfl hl.1 rfl (Nat.le_of_ble_eq_true rfl) d_M_shorter_41 ⟨Nat.le_of_ble_eq_true rfl, Nat.le_of_ble_eq_true rfl⟩) ?_
            rcases wo_or g h q x (n - j) j with hw | ⟨k1, hk1, hk2, hw⟩
            · rw [hw]
              refine lv_istore_n (lv' := [(3, .int (-1)), (0, .ref a), (1, .int x), (2, .int (nI j))]) hx hb d_M_shorter_44 rfl hl (by decide) rfl (fun ls hl => ?_)
              refine lv_iload_n hx hb d_M_shorter_45 rfl (lv_at hl 0 rfl) ?_
              refine lv_iconst (v := (-1)) hx hb d_M_shorter_46 (by decide) ?_
              refine lv_icmp_eq (tgt := 63) hx hb d_M_shorter_47 (by decide) (fun _ => ?_) (fun c4 => absurd (by decide) c4)
              refine lv_iload_n hx hb d_M_shorter_63 rfl (lv_at hl 3 rfl) ?_
              refine lv_if_le (tgt := 71) hx hb d_M_shorter_64 (by decide) (fun c5 => ?_) (fun c5 => ?_)
              · have hj0 : j = 0 := by
                  rcases Nat.eq_zero_or_pos j with z | z
                  · exact z
                  · exact absurd c5 (nI_nle z (by omega))
                refine lv_iconst (v := (-1)) hx hb d_M_shorter_71 (by decide) ?_
                refine lv_istore_n (lv' := [(2, .int (-1)), (3, .int (-1)), (0, .ref a), (1, .int x)]) hx hb d_M_shorter_72 rfl hl (by decide) rfl (fun ls hl => ?_)
                refine lv_goto (tgt := 34) hx hb d_M_shorter_73 (by decide) ?_
                have e9 : x = r := Option.some.inj (by rw [← hv]; unfold msO; rw [if_pos hw, if_pos hj0])
                refine lv_iload_n hx hb d_M_shorter_34 rfl (lv_at hl 0 rfl) ?_
                refine lv_if_lt (tgt := 76) hx hb d_M_shorter_35 (by decide) (fun _ => ?_) (fun c6 => absurd (by decide) c6)
                refine lv_aload_n hx hb d_M_shorter_76 rfl (lv_at hl 2 rfl) ?_
                refine lv_iload_n hx hb d_M_shorter_77 rfl (lv_at hl 3 rfl) ?_
                refine va_put (D := G.1) (ci := 3) (v := .int x) (ty := .int) (C := R_M) (T := F_M) (N := 10) hx hb ht in_M t_M tk_M n_M hown hK hP hD hS 0 rfl rfl 5 (by decide) (ht _ kf_M_65) (fun _ h9 => h9) rfl (by decide +kernel) rfl rfl (Nat.le_of_ble_eq_true rfl) d_M_shorter_78 (fun H locs hP hD hS => ?_)
                have hP : va_P G.1 classes [(a, .inr (3, [.int 0, .long ns, .long sd, .int (nI n), .int k, .int x, .int (nI q), .ref w1, .ref w2, .ref w3])), (w1, .inl (G.2.2.1, 100, .inl g)), (w2, .inl (G.2.2.2, 100, .inl h)), (w3, .inl (G.2.2.1, 10, .inl ik))] H := hP
                have hD : va_D A [(a, .inr (3, [.int 0, .long ns, .long sd, .int (nI n), .int k, .int x, .int (nI q), .ref w1, .ref w2, .ref w3])), (w1, .inl (G.2.2.1, 100, .inl g)), (w2, .inl (G.2.2.2, 100, .inl h)), (w3, .inl (G.2.2.1, 10, .inl ik))] := hD
                refine lv_iload_n hx hb d_M_shorter_81 rfl (lv_at hl 3 rfl) ?_
                refine pr_i (ru_S (As := [.int x]) (rest := []) ⟨hx, hb, hml, hown, ht⟩ hKN (c_M_countOf l G _ x) kc_M_90 ⟨rfl, rfl⟩ ⟨Nat.le_of_ble_eq_true rfl, Nat.le_of_ble_eq_true rfl⟩ rfl hl.1 rfl (Nat.le_of_ble_eq_true rfl) d_M_shorter_82 ⟨Nat.le_of_ble_eq_true rfl, Nat.le_of_ble_eq_true rfl⟩) ?_
                exact W.iret (v := (co x 16)) hx hb hr (fun t h9 _ => ⟨⟨(co x 16), (), rfl, (by rw [e9]), by show va_P _ _ _ t.heap; rw [h9]; exact (by rw [← e9]; exact hP)⟩, hS.F h9⟩) hS.2.2 d_M_shorter_85
              · have hj0 : ¬ j = 0 := fun z => c5 (by rw [z]; decide)
                refine lv_iconst (v := 0) hx hb d_M_shorter_67 (by decide) ?_
                refine lv_goto (tgt := 72) hx hb d_M_shorter_68 (by decide) ?_
                refine lv_istore_n (lv' := [(2, .int 0), (3, .int (-1)), (0, .ref a), (1, .int x)]) hx hb d_M_shorter_72 rfl hl (by decide) rfl (fun ls hl => ?_)
                refine lv_goto (tgt := 34) hx hb d_M_shorter_73 (by decide) ?_
                exact ih x 0 H locs ls (by omega) (by rw [← hv, msO_s, if_pos hw, if_neg hj0]) hP hD hS (by exact lv_sub hl [2, 3, 0] rfl)
            · rw [hw]
              refine lv_istore_n (lv' := [(3, .int (nI k1)), (0, .ref a), (1, .int x), (2, .int (nI j))]) hx hb d_M_shorter_44 rfl hl (by decide) rfl (fun ls hl => ?_)
              refine lv_iload_n hx hb d_M_shorter_45 rfl (lv_at hl 0 rfl) ?_
              refine lv_iconst (v := (-1)) hx hb d_M_shorter_46 (by decide) ?_
              refine lv_icmp_eq (tgt := 63) hx hb d_M_shorter_47 (by decide) (fun c7 => ?_) (fun c7 => ?_)
              · exact absurd c7 (nI_nm1 (show k1 < 2 ^ 31 by omega))
              · refine lv_iload_n hx hb d_M_shorter_50 rfl (lv_at hl 2 rfl) ?_
                refine lv_iconst (v := 1) hx hb d_M_shorter_51 (by decide) ?_
                refine lv_iload_n hx hb d_M_shorter_52 rfl (lv_at hl 0 rfl) ?_
                refine lv_ishl hx hb d_M_shorter_53 ?_
                refine lv_isub hx hb d_M_shorter_54 ?_
                refine lv_istore_n (lv' := [(1, .int (x - ((1 : Int32) <<< ((nI k1) &&& 31)))), (3, .int (nI k1)), (0, .ref a), (2, .int (nI j))]) hx hb d_M_shorter_55 rfl hl (by decide) rfl (fun ls hl => ?_)
                refine lv_iload_n hx hb d_M_shorter_56 rfl (lv_at hl 1 rfl) ?_
                refine lv_iconst (v := 1) hx hb d_M_shorter_57 (by decide) ?_
                refine lv_iadd hx hb d_M_shorter_58 ?_
                rw [show nI k1 + 1 = nI (k1 + 1) from nI_add k1 1]
                refine lv_istore_n (lv' := [(2, .int (nI (k1 + 1))), (1, .int (x - ((1 : Int32) <<< ((nI k1) &&& 31)))), (3, .int (nI k1)), (0, .ref a)]) hx hb d_M_shorter_59 rfl hl (by decide) rfl (fun ls hl => ?_)
                refine lv_goto (tgt := 73) hx hb d_M_shorter_60 (by decide) ?_
                refine lv_goto (tgt := 34) hx hb d_M_shorter_73 (by decide) ?_
                exact ih (x - ((1 : Int32) <<< ((nI k1) &&& 31))) (k1 + 1) H locs ls (by omega) (by rw [← hv, msO_s, if_neg (show ¬ wo g h q x (n - j) j = -1 by rw [hw]; exact nI_nm1 (by omega)), hw, nI_clamp (by omega)]) hP hD hS (by exact lv_sub hl [3, 1, 0] rfl)
      exact loop t0 _ 0 _ _ ls (by omega) hv0 hP hD hS (by exact lv_sub hl [2, 1, 0] rfl)
  · exact absurd c1 hE
