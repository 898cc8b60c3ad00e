theorem hsp01 (n : Nat) (fb : Int32) (f : Nat → Int64) (n2 : Nat) (fb2 : Int32) (f2 : Nat → Int64) : narrow .boolean (.int (hsp n fb f n2 fb2 f2)) = .int (hsp n fb f n2 fb2 f2) := by
  unfold hsp
  split
  · split
    · rfl
    · rfl
  · rfl
set_option maxHeartbeats 4000000 in
set_option maxRecDepth 100000 in
theorem c_P_same_no (l : Launch) (G : GT) (H : Heap) (a : Nat) (d1 : Nat) (d2 : Nat) (v1 : Nat) (v2 : Nat) (v3 : Nat) (o1 : Nat) (t1 : Nat) (sd : Int64) (k : Int32) (n : Nat) (fb : Int32) (f : Nat → Int64) (g : Nat → Int32) (h : Nat → Int32) (q : Nat) (ns : Int64) (lb : Int32) (s1 : Int64) (p1 : Int32) (p2 : Int32) (hP : va_P G.1 classes [(a, .inr (0, [.ref d1, .ref v1, .ref o1, .ref t1, .long ns, .int lb])), (d1, .inr (1, [.ref d2, .long sd, .int k, .int (nI n), .int fb])), (d2, .inl (G.2.1, 16, .inr (.inl f))), (v1, .inr (2, [.ref v2, .ref v3, .int (nI q)])), (v2, .inl (G.2.2.1, 100, .inl g)), (v3, .inl (G.2.2.2, 100, .inl h))] H) (hn : n ≤ 16) (hq : q ≤ 100) (hdr : fn_P_isDrawable p1 p2 = 0) : Met l y_P_same (Cond.code y_P_same b_P_same 5 (some .boolean) :: TG) ({ frames := 1, cells := 0, slots := 0, locals := 21 }) (PC G H [.ref a, .long s1, .int p1, .int p2]) (QcRead (0)) 0 0 (fun _ => False) := by
  refine Met.ofW (cc := b_P_same) (maxL := 5) (ret := (some .boolean)) (by decide) rfl ?_
  intro p e s m args below meth c s₁ B hml hv
  obtain ⟨rfl, hH, hKN⟩ := hv
  subst hH
  have hx := B.exec
  have hb := B.bytes
  have hr := B.returns
  have hts := atoms_spec (ws := (Cond.code y_P_same b_P_same 5 (some .boolean) :: TG)) B.pre
  have ht : ∀ w ∈ TG, w.before _ s = true := fun w h => hts w (List.mem_cons_of_mem _ h)
  have hown : s.vm.findClass R_P = some m.cls := findClass_of_methodNamed B.named
  have hlocks := B.notSynchronized
  have hK := hKN.1
  have hl := lv_entry ([.ref a, .long s1, .int p1, .int p2]) (n := 5) (Nat.le_of_ble_eq_true rfl)
  rw [lg_entry_eq]
  generalize (lg_sl ([.ref a, .long s1, .int p1, .int p2]) ++ List.replicate (5 - (lg_sl ([.ref a, .long s1, .int p1, .int p2])).length) Slot.unset).toArray = ls at hl ⊢
  have hl : lv_has ls 5 [(0, .ref a), (1, .long s1), (3, .int p1), (4, .int p2)] := hl
  refine lv_iload_n hx hb d_P_same_0 rfl (lv_at hl 2 rfl) ?_
  refine lv_iload hx hb d_P_same_1 (lv_at hl 3 rfl) ?_
  refine pr_i (ru_S (As := [.int p1, .int p2]) (rest := []) ⟨hx, hb, hml, hown, ht⟩ hKN (c_P_isDrawable l G _ p1 p2) kc_P_37 ⟨rfl, rfl⟩ ⟨Nat.le_of_ble_eq_true rfl, Nat.le_of_ble_eq_true rfl⟩ rfl hl.1 rfl (Nat.le_of_ble_eq_true rfl) d_P_same_3 ⟨Nat.le_of_ble_eq_true rfl, Nat.le_of_ble_eq_true rfl⟩) ?_
  refine lv_if_ne (tgt := 11) hx hb d_P_same_6 (by decide) (fun c1 => ?_) (fun c1 => ?_)
  · exact absurd hdr c1
  · refine lv_iconst (v := 0) hx hb d_P_same_9 (by decide) ?_
    exact W.zret (v := 0) hx hb hr rfl (fun t h9 _ => ⟨congrArg (fun z => Outcome.returned (some (Value.int z))) rfl, h9⟩) (fun _ h => nomatch h) d_P_same_10
set_option maxHeartbeats 4000000 in
set_option maxRecDepth 100000 in
theorem c_P_same (l : Launch) (G : GT) (H : Heap) (a : Nat) (d1 : Nat) (d2 : Nat) (v1 : Nat) (v2 : Nat) (v3 : Nat) (o1 : Nat) (t1 : Nat) (sd : Int64) (k : Int32) (n : Nat) (fb : Int32) (f : Nat → Int64) (g : Nat → Int32) (h : Nat → Int32) (q : Nat) (ns : Int64) (lb : Int32) (o2 : Nat) (sO : Int64) (kO : Int32) (nO : Nat) (bO : Int32) (fO : Nat → Int64) (t2 : Nat) (sT : Int64) (kT : Int32) (nT : Nat) (bT : Int32) (fT : Nat → Int64) (s1 : Int64) (p1 : Int32) (p2 : Nat) (hP : va_P G.1 classes [(a, .inr (0, [.ref d1, .ref v1, .ref o1, .ref t1, .long ns, .int lb])), (d1, .inr (1, [.ref d2, .long sd, .int k, .int (nI n), .int fb])), (d2, .inl (G.2.1, 16, .inr (.inl f))), (v1, .inr (2, [.ref v2, .ref v3, .int (nI q)])), (v2, .inl (G.2.2.1, 100, .inl g)), (v3, .inl (G.2.2.2, 100, .inl h)), (o1, .inr (1, [.ref o2, .long sO, .int kO, .int (nI nO), .int bO])), (o2, .inl (G.2.1, 16, .inr (.inl fO))), (t1, .inr (1, [.ref t2, .long sT, .int kT, .int (nI nT), .int bT])), (t2, .inl (G.2.1, 16, .inr (.inl fT)))] H) (hD0 : va_D (fun _ => True) [(a, .inr (0, [.ref d1, .ref v1, .ref o1, .ref t1, .long ns, .int lb])), (d1, .inr (1, [.ref d2, .long sd, .int k, .int (nI n), .int fb])), (d2, .inl (G.2.1, 16, .inr (.inl f))), (v1, .inr (2, [.ref v2, .ref v3, .int (nI q)])), (v2, .inl (G.2.2.1, 100, .inl g)), (v3, .inl (G.2.2.2, 100, .inl h)), (o1, .inr (1, [.ref o2, .long sO, .int kO, .int (nI nO), .int bO])), (o2, .inl (G.2.1, 16, .inr (.inl fO))), (t1, .inr (1, [.ref t2, .long sT, .int kT, .int (nI nT), .int bT])), (t2, .inl (G.2.1, 16, .inr (.inl fT)))]) (hn : n ≤ 16) (hq : q ≤ 100) (hnO : nO ≤ 16) (hnT : nT ≤ 16) (hdr : ¬ fn_P_isDrawable p1 (nI p2) = 0) (hp2 : p2 < 16) : Met l y_P_same (Cond.code y_P_same b_P_same 5 (some .boolean) :: TG) ({ frames := 5, cells := 0, slots := 0, locals := 117 }) (PC G H [.ref a, .long s1, .int p1, .int (nI p2)]) (QMi G (hsp (p2 + 1) (fbN p1 (p2 + 1) (fl ns p1 fO (p2 + 1))) (fl ns p1 fO (p2 + 1)) (p2 + 1) (fbN p1 (p2 + 1) (fl s1 p1 fT (p2 + 1))) (fl s1 p1 fT (p2 + 1))) [(a, .inr (0, [.ref d1, .ref v1, .ref o1, .ref t1, .long ns, .int lb])), (d1, .inr (1, [.ref d2, .long sd, .int k, .int (nI n), .int fb])), (d2, .inl (G.2.1, 16, .inr (.inl f))), (v1, .inr (2, [.ref v2, .ref v3, .int (nI q)])), (v2, .inl (G.2.2.1, 100, .inl g)), (v3, .inl (G.2.2.2, 100, .inl h)), (o1, .inr (1, [.ref o2, .long ns, .int p1, .int (nI (p2 + 1)), .int (fbN p1 (p2 + 1) (fl ns p1 fO (p2 + 1)))])), (o2, .inl (G.2.1, 16, .inr (.inl (fl ns p1 fO (p2 + 1))))), (t1, .inr (1, [.ref t2, .long s1, .int p1, .int (nI (p2 + 1)), .int (fbN p1 (p2 + 1) (fl s1 p1 fT (p2 + 1)))])), (t2, .inl (G.2.1, 16, .inr (.inl (fl s1 p1 fT (p2 + 1)))))] (va_A [(a, .inr (0, [.ref d1, .ref v1, .ref o1, .ref t1, .long ns, .int lb])), (d1, .inr (1, [.ref d2, .long sd, .int k, .int (nI n), .int fb])), (d2, .inl (G.2.1, 16, .inr (.inl f))), (v1, .inr (2, [.ref v2, .ref v3, .int (nI q)])), (v2, .inl (G.2.2.1, 100, .inl g)), (v3, .inl (G.2.2.2, 100, .inl h)), (o1, .inr (1, [.ref o2, .long sO, .int kO, .int (nI nO), .int bO])), (o2, .inl (G.2.1, 16, .inr (.inl fO))), (t1, .inr (1, [.ref t2, .long sT, .int kT, .int (nI nT), .int bT])), (t2, .inl (G.2.1, 16, .inr (.inl fT)))] H.size)) 0 0 (va_A [(a, .inr (0, [.ref d1, .ref v1, .ref o1, .ref t1, .long ns, .int lb])), (d1, .inr (1, [.ref d2, .long sd, .int k, .int (nI n), .int fb])), (d2, .inl (G.2.1, 16, .inr (.inl f))), (v1, .inr (2, [.ref v2, .ref v3, .int (nI q)])), (v2, .inl (G.2.2.1, 100, .inl g)), (v3, .inl (G.2.2.2, 100, .inl h)), (o1, .inr (1, [.ref o2, .long sO, .int kO, .int (nI nO), .int bO])), (o2, .inl (G.2.1, 16, .inr (.inl fO))), (t1, .inr (1, [.ref t2, .long sT, .int kT, .int (nI nT), .int bT])), (t2, .inl (G.2.1, 16, .inr (.inl fT)))] H.size) := by
  refine Met.ofW (cc := b_P_same) (maxL := 5) (ret := (some .boolean)) (by decide) rfl ?_
  intro p e s m args below meth c s₁ B hml hv
  obtain ⟨rfl, hH, hKN⟩ := hv
  subst hH
  have hx := B.exec
  have hb := B.bytes
  have hr := B.returns
  have hts := atoms_spec (ws := (Cond.code y_P_same b_P_same 5 (some .boolean) :: TG)) B.pre
  have ht : ∀ w ∈ TG, w.before _ s = true := fun w h => hts w (List.mem_cons_of_mem _ h)
  have hown : s.vm.findClass R_P = some m.cls := findClass_of_methodNamed B.named
  have hlocks := B.notSynchronized
  have hK := hKN.1
  have hl := lv_entry ([.ref a, .long s1, .int p1, .int (nI p2)]) (n := 5) (Nat.le_of_ble_eq_true rfl)
  rw [lg_entry_eq]
  generalize (lg_sl ([.ref a, .long s1, .int p1, .int (nI p2)]) ++ List.replicate (5 - (lg_sl ([.ref a, .long s1, .int p1, .int (nI p2)])).length) Slot.unset).toArray = ls at hl ⊢
  have hl : lv_has ls 5 [(0, .ref a), (1, .long s1), (3, .int p1), (4, .int (nI p2))] := hl
  have hD := hD0.self (sz := s.heap.size)
  generalize hAe : va_A [(a, .inr (0, [.ref d1, .ref v1, .ref o1, .ref t1, .long ns, .int lb])), (d1, .inr (1, [.ref d2, .long sd, .int k, .int (nI n), .int fb])), (d2, .inl (G.2.1, 16, .inr (.inl f))), (v1, .inr (2, [.ref v2, .ref v3, .int (nI q)])), (v2, .inl (G.2.2.1, 100, .inl g)), (v3, .inl (G.2.2.2, 100, .inl h)), (o1, .inr (1, [.ref o2, .long sO, .int kO, .int (nI nO), .int bO])), (o2, .inl (G.2.1, 16, .inr (.inl fO))), (t1, .inr (1, [.ref t2, .long sT, .int kT, .int (nI nT), .int bT])), (t2, .inl (G.2.1, 16, .inr (.inl fT)))] s.heap.size = A at hD ⊢
  have hA : ∀ q : Nat, s.heap.size ≤ q → A q := fun q h => by rw [← hAe]; exact Or.inr h
  have hS : va_S A s.heap s.heap [] := va_S.rf
  refine lv_iload_n hx hb d_P_same_0 rfl (lv_at hl 2 rfl) ?_
  refine lv_iload hx hb d_P_same_1 (lv_at hl 3 rfl) ?_
  refine pr_i (ru_S (As := [.int p1, .int (nI p2)]) (rest := []) ⟨hx, hb, hml, hown, ht⟩ hKN (c_P_isDrawable l G _ p1 (nI p2)) kc_P_37 ⟨rfl, rfl⟩ ⟨Nat.le_of_ble_eq_true rfl, Nat.le_of_ble_eq_true rfl⟩ rfl hl.1 rfl (Nat.le_of_ble_eq_true rfl) d_P_same_3 ⟨Nat.le_of_ble_eq_true rfl, Nat.le_of_ble_eq_true rfl⟩) ?_
  refine lv_if_ne (tgt := 11) hx hb d_P_same_6 (by decide) (fun c1 => ?_) (fun c1 => ?_)
  · refine lv_aload_n hx hb d_P_same_11 rfl (lv_at hl 0 rfl) ?_
    refine va_get (D := G.1) (ci := 0) (v := .ref o1) (C := R_P) (T := F_P) (N := 6) hx hb ht in_P hown hK hP 0 rfl rfl 2 (by decide) (ht _ kf_P_24) (fun _ h9 => h9) rfl d_P_same_12 ?_
    refine lv_aload_n hx hb d_P_same_15 rfl (lv_at hl 0 rfl) ?_
    refine va_get (D := G.1) (ci := 0) (v := .long ns) (C := R_P) (T := F_P) (N := 6) hx hb ht in_P hown hK hP 0 rfl rfl 4 (by decide) (ht _ kf_P_7) (fun _ h9 => h9) rfl d_P_same_16 ?_
    refine lv_iload_n hx hb d_P_same_19 rfl (lv_at hl 2 rfl) ?_
    refine lv_iload hx hb d_P_same_20 (lv_at hl 3 rfl) ?_
    refine lv_iconst (v := 1) hx hb d_P_same_22 (by decide) ?_
    refine lv_iadd hx hb d_P_same_23 ?_
    rw [nI_1 p2]
    refine mu_v (wr := [(a, .inr (0, [.ref d1, .ref v1, .ref o1, .ref t1, .long ns, .int lb])), (d1, .inr (1, [.ref d2, .long sd, .int k, .int (nI n), .int fb])), (d2, .inl (G.2.1, 16, .inr (.inl f))), (v1, .inr (2, [.ref v2, .ref v3, .int (nI q)])), (v2, .inl (G.2.2.1, 100, .inl g)), (v3, .inl (G.2.2.2, 100, .inl h)), (t1, .inr (1, [.ref t2, .long sT, .int kT, .int (nI nT), .int bT])), (t2, .inl (G.2.1, 16, .inr (.inl fT)))]) (wn := [(a, .inr (0, [.ref d1, .ref v1, .ref o1, .ref t1, .long ns, .int lb])), (d1, .inr (1, [.ref d2, .long sd, .int k, .int (nI n), .int fb])), (d2, .inl (G.2.1, 16, .inr (.inl f))), (v1, .inr (2, [.ref v2, .ref v3, .int (nI q)])), (v2, .inl (G.2.2.1, 100, .inl g)), (v3, .inl (G.2.2.2, 100, .inl h)), (o1, .inr (1, [.ref o2, .long ns, .int p1, .int (nI (p2 + 1)), .int (fbN p1 (p2 + 1) (fl ns p1 fO (p2 + 1)))])), (o2, .inl (G.2.1, 16, .inr (.inl (fl ns p1 fO (p2 + 1))))), (t1, .inr (1, [.ref t2, .long sT, .int kT, .int (nI nT), .int bT])), (t2, .inl (G.2.1, 16, .inr (.inl fT)))]) (ru_V (b := o1) (As := [.long ns, .int p1, .int (nI (p2 + 1))]) (rest := []) ⟨hx, hb, hml, hown, ht⟩ hKN (c_D_fill l G _ o1 o2 sO kO nO bO fO ns p1 (p2 + 1) (hP.sub [6, 7] rfl) ((hD.sub (ws' := [(o1, .inr (1, [.ref o2, .long sO, .int kO, .int (nI nO), .int bO])), (o2, .inl (G.2.1, 16, .inr (.inl fO)))]) [6, 7] (by decide) rfl).weaken (fun _ _ _ _ => trivial)) hnO (show p2 + 1 ≤ 16 by omega)) kc_P_41 ⟨rfl, rfl⟩ ⟨Nat.le_of_ble_eq_true rfl, Nat.le_of_ble_eq_true rfl⟩ (va_recv hK hP (ci := 1) (q0 := 6) rfl rfl) rfl hl.1 rfl (Nat.le_of_ble_eq_true rfl) d_P_same_24 ⟨Nat.le_of_ble_eq_true rfl, Nat.le_of_ble_eq_true rfl⟩) hP hD hS hA [6, 7] [0, 1, 2, 3, 4, 5, 8, 9] [0, 1, 2, 3, 4, 5, 8, 9, 6, 7] rfl rfl ⟨by decide, by decide, by decide⟩ (by decide) rfl rfl (fun H locs hP hD hS => ?_)
    have hn2 : p2 + 1 ≤ 16 := by omega
    refine lv_aload_n hx hb d_P_same_27 rfl (lv_at hl 0 rfl) ?_
    refine va_get (D := G.1) (ci := 0) (v := .ref t1) (C := R_P) (T := F_P) (N := 6) hx hb ht in_P hown hK hP 0 rfl rfl 3 (by decide) (ht _ kf_P_27) (fun _ h9 => h9) rfl d_P_same_28 ?_
    refine lv_lload_n hx hb d_P_same_31 rfl (lv_at hl 1 rfl) ?_
    refine lv_iload_n hx hb d_P_same_32 rfl (lv_at hl 2 rfl) ?_
    refine lv_iload hx hb d_P_same_33 (lv_at hl 3 rfl) ?_
    refine lv_iconst (v := 1) hx hb d_P_same_35 (by decide) ?_
    refine lv_iadd hx hb d_P_same_36 ?_
    rw [nI_1 p2]
    refine mu_v (wr := [(a, .inr (0, [.ref d1, .ref v1, .ref o1, .ref t1, .long ns, .int lb])), (d1, .inr (1, [.ref d2, .long sd, .int k, .int (nI n), .int fb])), (d2, .inl (G.2.1, 16, .inr (.inl f))), (v1, .inr (2, [.ref v2, .ref v3, .int (nI q)])), (v2, .inl (G.2.2.1, 100, .inl g)), (v3, .inl (G.2.2.2, 100, .inl h)), (o1, .inr (1, [.ref o2, .long ns, .int p1, .int (nI (p2 + 1)), .int (fbN p1 (p2 + 1) (fl ns p1 fO (p2 + 1)))])), (o2, .inl (G.2.1, 16, .inr (.inl (fl ns p1 fO (p2 + 1)))))]) (wn := [(a, .inr (0, [.ref d1, .ref v1, .ref o1, .ref t1, .long ns, .int lb])), (d1, .inr (1, [.ref d2, .long sd, .int k, .int (nI n), .int fb])), (d2, .inl (G.2.1, 16, .inr (.inl f))), (v1, .inr (2, [.ref v2, .ref v3, .int (nI q)])), (v2, .inl (G.2.2.1, 100, .inl g)), (v3, .inl (G.2.2.2, 100, .inl h)), (o1, .inr (1, [.ref o2, .long ns, .int p1, .int (nI (p2 + 1)), .int (fbN p1 (p2 + 1) (fl ns p1 fO (p2 + 1)))])), (o2, .inl (G.2.1, 16, .inr (.inl (fl ns p1 fO (p2 + 1))))), (t1, .inr (1, [.ref t2, .long s1, .int p1, .int (nI (p2 + 1)), .int (fbN p1 (p2 + 1) (fl s1 p1 fT (p2 + 1)))])), (t2, .inl (G.2.1, 16, .inr (.inl (fl s1 p1 fT (p2 + 1)))))]) (ru_V (b := t1) (As := [.long s1, .int p1, .int (nI (p2 + 1))]) (rest := []) ⟨hx, hb, hml, hown, ht⟩ hKN (c_D_fill l G _ t1 t2 sT kT nT bT fT s1 p1 (p2 + 1) (hP.sub [8, 9] rfl) ((hD.sub (ws' := [(t1, .inr (1, [.ref t2, .long sT, .int kT, .int (nI nT), .int bT])), (t2, .inl (G.2.1, 16, .inr (.inl fT)))]) [8, 9] (by decide) rfl).weaken (fun _ _ _ _ => trivial)) hnT (show p2 + 1 ≤ 16 by omega)) kc_P_41 ⟨rfl, rfl⟩ ⟨Nat.le_of_ble_eq_true rfl, Nat.le_of_ble_eq_true rfl⟩ (va_recv hK hP (ci := 1) (q0 := 8) rfl rfl) rfl hl.1 rfl (Nat.le_of_ble_eq_true rfl) d_P_same_37 ⟨Nat.le_of_ble_eq_true rfl, Nat.le_of_ble_eq_true rfl⟩) hP hD hS hA [8, 9] [0, 1, 2, 3, 4, 5, 6, 7] [0, 1, 2, 3, 4, 5, 6, 7, 8, 9] rfl rfl ⟨by decide, by decide, by decide⟩ (by decide) rfl rfl (fun H locs hP hD hS => ?_)
    refine lv_aload_n hx hb d_P_same_40 rfl (lv_at hl 0 rfl) ?_
    refine va_get (D := G.1) (ci := 0) (v := .ref o1) (C := R_P) (T := F_P) (N := 6) hx hb ht in_P hown hK hP 0 rfl rfl 2 (by decide) (ht _ kf_P_24) (fun _ h9 => h9) rfl d_P_same_41 ?_
    refine lv_aload_n hx hb d_P_same_44 rfl (lv_at hl 0 rfl) ?_
    refine va_get (D := G.1) (ci := 0) (v := .ref t1) (C := R_P) (T := F_P) (N := 6) hx hb ht in_P hown hK hP 0 rfl rfl 3 (by decide) (ht _ kf_P_27) (fun _ h9 => h9) rfl d_P_same_45 ?_
    refine pr_i (ru_S (As := [.ref o1, .ref t1]) (rest := []) ⟨hx, hb, hml, hown, ht⟩ hKN (c_P_haveSameParts l G _ o1 o2 ns p1 (p2 + 1) (fbN p1 (p2 + 1) (fl ns p1 fO (p2 + 1))) (fl ns p1 fO (p2 + 1)) t1 t2 s1 p1 (p2 + 1) (fbN p1 (p2 + 1) (fl s1 p1 fT (p2 + 1))) (fl s1 p1 fT (p2 + 1)) (hP.sub [6, 7, 8, 9] rfl) hn2 hn2) kc_P_104 ⟨rfl, rfl⟩ ⟨Nat.le_of_ble_eq_true rfl, Nat.le_of_ble_eq_true rfl⟩ rfl hl.1 rfl (Nat.le_of_ble_eq_true rfl) d_P_same_48 ⟨Nat.le_of_ble_eq_true rfl, Nat.le_of_ble_eq_true rfl⟩) ?_
    exact W.zret (v := (hsp (p2 + 1) (fbN p1 (p2 + 1) (fl ns p1 fO (p2 + 1))) (fl ns p1 fO (p2 + 1)) (p2 + 1) (fbN p1 (p2 + 1) (fl s1 p1 fT (p2 + 1))) (fl s1 p1 fT (p2 + 1)))) hx hb hr (hsp01 _ _ _ _ _ _) (fun t h9 _ => ⟨⟨(hsp (p2 + 1) (fbN p1 (p2 + 1) (fl ns p1 fO (p2 + 1))) (fl ns p1 fO (p2 + 1)) (p2 + 1) (fbN p1 (p2 + 1) (fl s1 p1 fT (p2 + 1))) (fl s1 p1 fT (p2 + 1))), (), rfl, rfl, by show va_P _ _ _ t.heap; rw [h9]; exact hP⟩, hS.F h9⟩) hS.2.2 d_P_same_51
  · exact absurd c1 hdr
