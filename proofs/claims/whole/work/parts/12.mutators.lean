def fl (sd : Int64) (k : Int32) (f : Nat → Int64) : Nat → Nat → Int64
  | 0 => f
  | j + 1 => vp_updL (fl sd k f j) j (zN sd k (nI j))
def fbN (k : Int32) (n : Nat) (f : Nat → Int64) : Int32 := if k = 3 then gh n f n else 0
theorem fill_mm {n : Nat} (h : n ≤ 16) : (if 0 < (if 16 < nI n then 16 else nI n) then (if 16 < nI n then 16 else nI n) else 0) = nI n := by
  have key : ∀ n : Fin 17, (if 0 < (if 16 < nI n.val then 16 else nI n.val) then (if 16 < nI n.val then 16 else nI n.val) else 0) = nI n.val := by decide +kernel
  exact key ⟨n, by omega⟩
set_option maxHeartbeats 4000000 in
set_option maxRecDepth 100000 in
theorem c_D_fill (l : Launch) (G : GT) (H : Heap) (a : Nat) (b : Nat) (sd : Int64) (k : Int32) (n : Nat) (fb : Int32) (f : Nat → Int64) (sd1 : Int64) (k1 : Int32) (n1 : Nat) (hP : va_P G.1 classes [(a, .inr (1, [.ref b, .long sd, .int k, .int (nI n), .int fb])), (b, .inl (G.2.1, 16, .inr (.inl f)))] H) (hD0 : va_D (fun _ => True) [(a, .inr (1, [.ref b, .long sd, .int k, .int (nI n), .int fb])), (b, .inl (G.2.1, 16, .inr (.inl f)))]) (hn : n ≤ 16) (hn1 : n1 ≤ 16) : Met l y_D_fill (Cond.code y_D_fill b_D_fill 6 none :: TG) ({ frames := 4, cells := 0, slots := 0, locals := 92 }) (PC G H [.ref a, .long sd1, .int k1, .int (nI n1)]) (QMv G [(a, .inr (1, [.ref b, .long sd1, .int k1, .int (nI n1), .int (fbN k1 n1 (fl sd1 k1 f n1))])), (b, .inl (G.2.1, 16, .inr (.inl (fl sd1 k1 f n1))))] (va_A [(a, .inr (1, [.ref b, .long sd, .int k, .int (nI n), .int fb])), (b, .inl (G.2.1, 16, .inr (.inl f)))] H.size)) 0 0 (va_A [(a, .inr (1, [.ref b, .long sd, .int k, .int (nI n), .int fb])), (b, .inl (G.2.1, 16, .inr (.inl f)))] H.size) := by
  refine Met.ofW (cc := b_D_fill) (maxL := 6) (ret := none) (by decide) rfl ?_
  intro p e s m args below meth c s₁ B hml hv
  obtain ⟨rfl, hH, hKN⟩ := hv
  subst hH
  have hx := B.exec
  have hb := B.bytes
  have hr := B.returns
  have hts := atoms_spec (ws := (Cond.code y_D_fill b_D_fill 6 none :: TG)) B.pre
  have ht : ∀ w ∈ TG, w.before _ s = true := fun w h => hts w (List.mem_cons_of_mem _ h)
  have hown : s.vm.findClass R_D = some m.cls := findClass_of_methodNamed B.named
  have hlocks := B.notSynchronized
  have hK := hKN.1
  have hl := lv_entry ([.ref a, .long sd1, .int k1, .int (nI n1)]) (n := 6) (Nat.le_of_ble_eq_true rfl)
  rw [lg_entry_eq]
  generalize (lg_sl ([.ref a, .long sd1, .int k1, .int (nI n1)]) ++ List.replicate (6 - (lg_sl ([.ref a, .long sd1, .int k1, .int (nI n1)])).length) Slot.unset).toArray = ls at hl ⊢
  have hl : lv_has ls 6 [(0, .ref a), (1, .long sd1), (3, .int k1), (4, .int (nI n1))] := hl
  have hD := hD0.self (sz := s.heap.size)
  generalize hAe : va_A [(a, .inr (1, [.ref b, .long sd, .int k, .int (nI n), .int fb])), (b, .inl (G.2.1, 16, .inr (.inl f)))] s.heap.size = A at hD ⊢
  have hA : ∀ q : Nat, s.heap.size ≤ q → A q := fun q h => by rw [← hAe]; exact Or.inr h
  have hS : va_S A s.heap s.heap [] := va_S.rf
  refine lv_aload_n hx hb d_D_fill_0 rfl (lv_at hl 0 rfl) ?_
  refine lv_lload_n hx hb d_D_fill_1 rfl (lv_at hl 1 rfl) ?_
  refine va_put (D := G.1) (ci := 1) (v := .long sd1) (ty := .long) (C := R_D) (T := F_D) (N := 5) hx hb ht in_D t_D tk_D n_D hown hK hP hD hS 0 rfl rfl 1 (by decide) (ht _ kf_D_15) (fun _ h9 => h9) rfl (by decide +kernel) rfl rfl (Nat.le_of_ble_eq_true rfl) d_D_fill_2 (fun H locs hP hD hS => ?_)
  have hP : va_P G.1 classes [(a, .inr (1, [.ref b, .long sd1, .int k, .int (nI n), .int fb])), (b, .inl (G.2.1, 16, .inr (.inl f)))] H := hP
  have hD : va_D A [(a, .inr (1, [.ref b, .long sd1, .int k, .int (nI n), .int fb])), (b, .inl (G.2.1, 16, .inr (.inl f)))] := hD
  refine lv_aload_n hx hb d_D_fill_5 rfl (lv_at hl 0 rfl) ?_
  refine lv_iload_n hx hb d_D_fill_6 rfl (lv_at hl 2 rfl) ?_
  refine va_put (D := G.1) (ci := 1) (v := .int k1) (ty := .int) (C := R_D) (T := F_D) (N := 5) hx hb ht in_D t_D tk_D n_D hown hK hP hD hS 0 rfl rfl 2 (by decide) (ht _ kf_D_19) (fun _ h9 => h9) rfl (by decide +kernel) rfl rfl (Nat.le_of_ble_eq_true rfl) d_D_fill_7 (fun H locs hP hD hS => ?_)
  have hP : va_P G.1 classes [(a, .inr (1, [.ref b, .long sd1, .int k1, .int (nI n), .int fb])), (b, .inl (G.2.1, 16, .inr (.inl f)))] H := hP
  have hD : va_D A [(a, .inr (1, [.ref b, .long sd1, .int k1, .int (nI n), .int fb])), (b, .inl (G.2.1, 16, .inr (.inl f)))] := hD
  refine lv_aload_n hx hb d_D_fill_10 rfl (lv_at hl 0 rfl) ?_
  refine lv_iconst (v := 0) hx hb d_D_fill_11 (by decide) ?_
  refine lv_iload hx hb d_D_fill_12 (lv_at hl 3 rfl) ?_
  refine lv_bipush (v := 16) hx hb d_D_fill_14 (by decide) ?_
  refine va_mmin hx hb (hml.trans hl.1.symm) hown (ht _ km_D_29) (ht _ kms_min) (ht _ kmi) (ht _ kmc_min) (Nat.le_of_ble_eq_true rfl) (Nat.le_of_ble_eq_true rfl) (Nat.le_of_ble_eq_true rfl) (Nat.le_of_ble_eq_true rfl) d_D_fill_16 ?_
  refine va_mmax hx hb (hml.trans hl.1.symm) hown (ht _ km_D_35) (ht _ kms_max) (ht _ kmi) (ht _ kmc_max) (Nat.le_of_ble_eq_true rfl) (Nat.le_of_ble_eq_true rfl) (Nat.le_of_ble_eq_true rfl) (Nat.le_of_ble_eq_true rfl) d_D_fill_19 ?_
  rw [fill_mm hn1]
  refine va_put (D := G.1) (ci := 1) (v := .int (nI n1)) (ty := .int) (C := R_D) (T := F_D) (N := 5) hx hb ht in_D t_D tk_D n_D hown hK hP hD hS 0 rfl rfl 3 (by decide) (ht _ kf_D_23) (fun _ h9 => h9) rfl (by decide +kernel) rfl rfl (Nat.le_of_ble_eq_true rfl) d_D_fill_22 (fun H locs hP hD hS => ?_)
  have hP : va_P G.1 classes [(a, .inr (1, [.ref b, .long sd1, .int k1, .int (nI n1), .int fb])), (b, .inl (G.2.1, 16, .inr (.inl f)))] H := hP
  have hD : va_D A [(a, .inr (1, [.ref b, .long sd1, .int k1, .int (nI n1), .int fb])), (b, .inl (G.2.1, 16, .inr (.inl f)))] := hD
  refine lv_iconst (v := 0) hx hb d_D_fill_25 (by decide) ?_
  refine lv_istore (lv' := [(5, .int 0), (0, .ref a), (1, .long sd1), (3, .int k1), (4, .int (nI n1))]) hx hb d_D_fill_26 hl (by decide) rfl (fun ls hl => ?_)
  have loop : ∀ (kk j : Nat) (H : Heap) (locs : List Loc) (ls : Array Slot), j + kk = n1 → va_P G.1 classes [(a, .inr (1, [.ref b, .long sd1, .int k1, .int (nI n1), .int fb])), (b, .inl (G.2.1, 16, .inr (.inl (fl sd1 k1 f j))))] H → va_D A [(a, .inr (1, [.ref b, .long sd1, .int k1, .int (nI n1), .int fb])), (b, .inl (G.2.1, 16, .inr (.inl (fl sd1 k1 f j))))] → va_S A s.heap H locs → lv_has ls 6 [(0, .ref a), (1, .long sd1), (3, .int k1), (4, .int (nI n1)), (5, .int (nI j))] → W p l e (headSpec (Cond.code y_D_fill b_D_fill 6 none :: TG) ({ frames := 4, cells := 0, slots := 0, locals := 92 })).room s m ([.ref a, .long sd1, .int k1, .int (nI n1)] : List Value).toArray below meth c H locs 0 0 (MQ below (QMv G [(a, .inr (1, [.ref b, .long sd1, .int k1, .int (nI n1), .int (fbN k1 n1 (fl sd1 k1 f n1))])), (b, .inl (G.2.1, 16, .inr (.inl (fl sd1 k1 f n1))))] A) ([.ref a, .long sd1, .int k1, .int (nI n1)] : List Value).toArray s 0 0 A) (F0 m 28 ls []) := by
    intro kk
    induction kk with
    | zero =>
      intro j  H locs ls hj  hP hD hS hl
      refine lv_iload hx hb d_D_fill_28 (lv_at hl 4 rfl) ?_
      refine lv_aload_n hx hb d_D_fill_30 rfl (lv_at hl 0 rfl) ?_
      refine va_get (D := G.1) (ci := 1) (v := .int (nI n1)) (C := R_D) (T := F_D) (N := 5) hx hb ht in_D hown hK hP 0 rfl rfl 3 (by decide) (ht _ kf_D_23) (fun _ h9 => h9) rfl d_D_fill_31 ?_
      refine lv_icmp_ge (tgt := 63) hx hb d_D_fill_34 (by decide) (fun c1 => ?_) (fun c1 => ?_)
      · refine lv_aload_n hx hb d_D_fill_63 rfl (lv_at hl 0 rfl) ?_
        refine lv_aload_n hx hb d_D_fill_64 rfl (lv_at hl 0 rfl) ?_
        refine va_get (D := G.1) (ci := 1) (v := .int k1) (C := R_D) (T := F_D) (N := 5) hx hb ht in_D hown hK hP 0 rfl rfl 2 (by decide) (ht _ kf_D_19) (fun _ h9 => h9) rfl d_D_fill_65 ?_
        refine lv_iconst (v := 3) hx hb d_D_fill_68 (by decide) ?_
        refine lv_icmp_ne (tgt := 79) hx hb d_D_fill_69 (by decide) (fun c2 => ?_) (fun c2 => ?_)
        · refine lv_iconst (v := 0) hx hb d_D_fill_79 (by decide) ?_
          refine va_put (D := G.1) (ci := 1) (v := .int 0) (ty := .int) (C := R_D) (T := F_D) (N := 5) hx hb ht in_D t_D tk_D n_D hown hK hP hD hS 0 rfl rfl 4 (by decide) (ht _ kf_D_26) (fun _ h9 => h9) rfl (by decide +kernel) rfl rfl (Nat.le_of_ble_eq_true rfl) d_D_fill_80 (fun H locs hP hD hS => ?_)
          have hP : va_P G.1 classes [(a, .inr (1, [.ref b, .long sd1, .int k1, .int (nI n1), .int 0])), (b, .inl (G.2.1, 16, .inr (.inl (fl sd1 k1 f j))))] H := hP
          have hD : va_D A [(a, .inr (1, [.ref b, .long sd1, .int k1, .int (nI n1), .int 0])), (b, .inl (G.2.1, 16, .inr (.inl (fl sd1 k1 f j))))] := hD
          exact W.vret hx hb hr (fun t h9 _ => ⟨⟨(), rfl, trivial, by show va_P _ _ _ t.heap; rw [h9]; exact (by rw [show fbN k1 n1 (fl sd1 k1 f n1) = 0 from if_neg c2]; rw [show j = n1 by omega] at hP; exact hP)⟩, hS.F h9⟩) hS.2.2 d_D_fill_83
        · refine lv_aload_n hx hb d_D_fill_72 rfl (lv_at hl 0 rfl) ?_
          refine pr_i (ru_V (b := a) (As := []) (rest := [.ref a]) ⟨hx, hb, hml, hown, ht⟩ hKN (c_D_greaterHalf l G _ a b sd1 k1 n1 fb (fl sd1 k1 f j) (hP.sub [0, 1] rfl) hn1) kc_D_42 ⟨rfl, rfl⟩ ⟨Nat.le_of_ble_eq_true rfl, Nat.le_of_ble_eq_true rfl⟩ (va_recv hK hP (ci := 1) (q0 := 0) rfl rfl) rfl hl.1 rfl (Nat.le_of_ble_eq_true rfl) d_D_fill_73 ⟨Nat.le_of_ble_eq_true rfl, Nat.le_of_ble_eq_true rfl⟩) ?_
          refine lv_goto (tgt := 80) hx hb d_D_fill_76 (by decide) ?_
          refine va_put (D := G.1) (ci := 1) (v := .int (gh n1 (fl sd1 k1 f j) n1)) (ty := .int) (C := R_D) (T := F_D) (N := 5) hx hb ht in_D t_D tk_D n_D hown hK hP hD hS 0 rfl rfl 4 (by decide) (ht _ kf_D_26) (fun _ h9 => h9) rfl (by decide +kernel) rfl rfl (Nat.le_of_ble_eq_true rfl) d_D_fill_80 (fun H locs hP hD hS => ?_)
          have hP : va_P G.1 classes [(a, .inr (1, [.ref b, .long sd1, .int k1, .int (nI n1), .int (gh n1 (fl sd1 k1 f j) n1)])), (b, .inl (G.2.1, 16, .inr (.inl (fl sd1 k1 f j))))] H := hP
          have hD : va_D A [(a, .inr (1, [.ref b, .long sd1, .int k1, .int (nI n1), .int (gh n1 (fl sd1 k1 f j) n1)])), (b, .inl (G.2.1, 16, .inr (.inl (fl sd1 k1 f j))))] := hD
          exact W.vret hx hb hr (fun t h9 _ => ⟨⟨(), rfl, trivial, by show va_P _ _ _ t.heap; rw [h9]; exact (by rw [show fbN k1 n1 (fl sd1 k1 f n1) = gh n1 (fl sd1 k1 f n1) n1 from if_pos c2]; rw [show j = n1 by omega] at hP; exact hP)⟩, hS.F h9⟩) hS.2.2 d_D_fill_83
      · exact absurd (show nI n1 ≤ nI j from nI_le (by omega) (by omega)) c1
    | succ kk ih =>
      intro j  H locs ls hj  hP hD hS hl
      refine lv_iload hx hb d_D_fill_28 (lv_at hl 4 rfl) ?_
      refine lv_aload_n hx hb d_D_fill_30 rfl (lv_at hl 0 rfl) ?_
      refine va_get (D := G.1) (ci := 1) (v := .int (nI n1)) (C := R_D) (T := F_D) (N := 5) hx hb ht in_D hown hK hP 0 rfl rfl 3 (by decide) (ht _ kf_D_23) (fun _ h9 => h9) rfl d_D_fill_31 ?_
      refine lv_icmp_ge (tgt := 63) hx hb d_D_fill_34 (by decide) (fun c3 => ?_) (fun c3 => ?_)
      · exact absurd c3 (nI_ge (show j < n1 by omega) (by omega))
      · refine lv_aload_n hx hb d_D_fill_37 rfl (lv_at hl 0 rfl) ?_
        refine va_get (D := G.1) (ci := 1) (v := .ref b) (C := R_D) (T := F_D) (N := 5) hx hb ht in_D hown hK hP 0 rfl rfl 0 (by decide) (ht _ kf_D_9) (fun _ h9 => h9) rfl d_D_fill_38 ?_
        refine lv_iload hx hb d_D_fill_41 (lv_at hl 4 rfl) ?_
        refine lv_aload_n hx hb d_D_fill_43 rfl (lv_at hl 0 rfl) ?_
        refine va_get (D := G.1) (ci := 1) (v := .long sd1) (C := R_D) (T := F_D) (N := 5) hx hb ht in_D hown hK hP 0 rfl rfl 1 (by decide) (ht _ kf_D_15) (fun _ h9 => h9) rfl d_D_fill_44 ?_
        refine lv_aload_n hx hb d_D_fill_47 rfl (lv_at hl 0 rfl) ?_
        refine va_get (D := G.1) (ci := 1) (v := .int k1) (C := R_D) (T := F_D) (N := 5) hx hb ht in_D hown hK hP 0 rfl rfl 2 (by decide) (ht _ kf_D_19) (fun _ h9 => h9) rfl d_D_fill_48 ?_
        refine lv_iload hx hb d_D_fill_51 (lv_at hl 4 rfl) ?_
        refine pr_l (ru_SN (As := [.long sd1, .int k1, .int (nI j)]) (rest := [.int (nI j), .ref b]) ⟨hx, hb, hml, hown, ht⟩ hKN (c_P_number l G _ sd1 k1 (nI j)) kc_D_38 ⟨rfl, rfl⟩ ⟨Nat.le_of_ble_eq_true rfl, Nat.le_of_ble_eq_true rfl⟩ rfl hl.1 rfl (Nat.le_of_ble_eq_true rfl) d_D_fill_53 ⟨Nat.le_of_ble_eq_true rfl, Nat.le_of_ble_eq_true rfl⟩) ?_
        refine va_last hx hb hK hP hD hS 1 0 rfl rfl (i := (nI j)) (vp_in_nI (show j < 16 by omega) (by omega)) d_D_fill_56 (fun H locs hP hD hS => ?_)
        rw [nI_clamp (show j < 2 ^ 31 by omega)] at hP hD
        have hP : va_P G.1 classes [(a, .inr (1, [.ref b, .long sd1, .int k1, .int (nI n1), .int fb])), (b, .inl (G.2.1, 16, .inr (.inl (vp_updL (fl sd1 k1 f j) j (zN sd1 k1 (nI j))))))] H := hP
        have hD : va_D A [(a, .inr (1, [.ref b, .long sd1, .int k1, .int (nI n1), .int fb])), (b, .inl (G.2.1, 16, .inr (.inl (vp_updL (fl sd1 k1 f j) j (zN sd1 k1 (nI j))))))] := hD
        refine lv_iinc (v := nI (j + 1)) (lv' := [(5, .int (nI (j + 1))), (0, .ref a), (1, .long sd1), (3, .int k1), (4, .int (nI n1))]) hx hb d_D_fill_57 hl (k := 4) rfl (nI_1 j) (by decide) rfl (fun ls hl => ?_)
        refine lv_goto (tgt := 28) hx hb d_D_fill_60 (by decide) ?_
        exact ih (j + 1) H locs ls (by omega) hP hD hS (lv_sub hl [1, 2, 3, 4, 0] rfl)
  exact loop n1 0 _ _ ls (by omega) hP hD hS (by exact lv_sub hl [1, 2, 3, 4, 0] rfl)
set_option maxHeartbeats 4000000 in
set_option maxRecDepth 100000 in
theorem c_V_forget (l : Launch) (G : GT) (H : Heap) (a : Nat) (b : Nat) (b3 : Nat) (g : Nat → Int32) (h : Nat → Int32) (n : Nat) (hP : va_P G.1 classes [(a, .inr (2, [.ref b, .ref b3, .int (nI n)])), (b, .inl (G.2.2.1, 100, .inl g)), (b3, .inl (G.2.2.2, 100, .inl h))] H) (hD0 : va_D (fun _ => True) [(a, .inr (2, [.ref b, .ref b3, .int (nI n)])), (b, .inl (G.2.2.1, 100, .inl g)), (b3, .inl (G.2.2.2, 100, .inl h))]) (hn : n ≤ 100) : Met l y_V_forget (Cond.code y_V_forget b_V_forget 1 none :: TG) ({ frames := 0, cells := 0, slots := 0, locals := 0 }) (PC G H [.ref a]) (QMv G [(a, .inr (2, [.ref b, .ref b3, .int (nI 0)])), (b, .inl (G.2.2.1, 100, .inl g)), (b3, .inl (G.2.2.2, 100, .inl h))] (va_A [(a, .inr (2, [.ref b, .ref b3, .int (nI n)])), (b, .inl (G.2.2.1, 100, .inl g)), (b3, .inl (G.2.2.2, 100, .inl h))] H.size)) 0 0 (va_A [(a, .inr (2, [.ref b, .ref b3, .int (nI n)])), (b, .inl (G.2.2.1, 100, .inl g)), (b3, .inl (G.2.2.2, 100, .inl h))] H.size) := by
  refine Met.ofW (cc := b_V_forget) (maxL := 1) (ret := none) (by decide) rfl ?_
  intro p e s m args below meth c s₁ B hml hv
  obtain ⟨rfl, hH, hKN⟩ := hv
  subst hH
  have hx := B.exec
  have hb := B.bytes
  have hr := B.returns
  have hts := atoms_spec (ws := (Cond.code y_V_forget b_V_forget 1 none :: TG)) B.pre
  have ht : ∀ w ∈ TG, w.before _ s = true := fun w h => hts w (List.mem_cons_of_mem _ h)
  have hown : s.vm.findClass R_V = some m.cls := findClass_of_methodNamed B.named
  have hlocks := B.notSynchronized
  have hK := hKN.1
  have hl := lv_entry ([.ref a]) (n := 1) (Nat.le_of_ble_eq_true rfl)
  rw [lg_entry_eq]
  generalize (lg_sl ([.ref a]) ++ List.replicate (1 - (lg_sl ([.ref a])).length) Slot.unset).toArray = ls at hl ⊢
  have hl : lv_has ls 1 [(0, .ref a)] := hl
  have hD := hD0.self (sz := s.heap.size)
  generalize hAe : va_A [(a, .inr (2, [.ref b, .ref b3, .int (nI n)])), (b, .inl (G.2.2.1, 100, .inl g)), (b3, .inl (G.2.2.2, 100, .inl h))] s.heap.size = A at hD ⊢
  have hA : ∀ q : Nat, s.heap.size ≤ q → A q := fun q h => by rw [← hAe]; exact Or.inr h
  have hS : va_S A s.heap s.heap [] := va_S.rf
  refine lv_aload_n hx hb d_V_forget_0 rfl (lv_at hl 0 rfl) ?_
  refine lv_iconst (v := 0) hx hb d_V_forget_1 (by decide) ?_
  refine va_put (D := G.1) (ci := 2) (v := .int 0) (ty := .int) (C := R_V) (T := F_V) (N := 3) hx hb ht in_V t_V tk_V n_V hown hK hP hD hS 0 rfl rfl 2 (by decide) (ht _ kf_V_19) (fun _ h9 => h9) rfl (by decide +kernel) rfl rfl (Nat.le_of_ble_eq_true rfl) d_V_forget_2 (fun H locs hP hD hS => ?_)
  have hP : va_P G.1 classes [(a, .inr (2, [.ref b, .ref b3, .int 0])), (b, .inl (G.2.2.1, 100, .inl g)), (b3, .inl (G.2.2.2, 100, .inl h))] H := hP
  have hD : va_D A [(a, .inr (2, [.ref b, .ref b3, .int 0])), (b, .inl (G.2.2.1, 100, .inl g)), (b3, .inl (G.2.2.2, 100, .inl h))] := hD
  exact W.vret hx hb hr (fun t h9 _ => ⟨⟨(), rfl, trivial, by show va_P _ _ _ t.heap; rw [h9]; exact hP⟩, hS.F h9⟩) hS.2.2 d_V_forget_5
def tlr (g : Nat → Int32) (n : Nat) (x : Int32) : Int32 := if nI (vf g x n 0) = nI n then (if nI n < 100 then 1 else 0) else 1
def tlg (g : Nat → Int32) (n : Nat) (x : Int32) : Nat → Int32 := if nI (vf g x n 0) = nI n then (if nI n < 100 then upd g (vf g x n 0) x else g) else g
def tlh (g h : Nat → Int32) (n : Nat) (x y : Int32) : Nat → Int32 := if nI (vf g x n 0) = nI n then (if nI n < 100 then upd h (vf g x n 0) (vp_nar .boolean y) else h) else upd h (vf g x n 0) (vp_nar .boolean y)
def tln (g : Nat → Int32) (n : Nat) (x : Int32) : Nat := if nI (vf g x n 0) = nI n then (if nI n < 100 then n + 1 else n) else n
theorem tl_in {g : Nat → Int32} {x : Int32} {n : Nat} (hn : n ≤ 100) (c : ¬ nI (vf g x n 0) = nI n) : vf g x n 0 < 100 := by
  have h := vf_le g x n 0
  have h2 : ¬ vf g x n 0 = n := fun q => c (by rw [q])
  omega
theorem tl_in2 {g : Nat → Int32} {x : Int32} {n : Nat} (hn : n ≤ 100) (c : nI (vf g x n 0) = nI n) (c2 : nI n < 100) : vf g x n 0 < 100 := by
  have h := vf_le g x n 0
  have h1 := (nI_eq (by omega) (by omega)).mp c
  have h2 := (nI_ltI (show n < 2 ^ 31 by omega) (show 100 < 2 ^ 31 by omega)).mp c2
  omega
set_option maxHeartbeats 4000000 in
set_option maxRecDepth 100000 in
theorem c_V_tell (l : Launch) (G : GT) (H : Heap) (a : Nat) (b : Nat) (b3 : Nat) (g : Nat → Int32) (h : Nat → Int32) (n : Nat) (p1 : Int32) (p2 : Int32) (hP : va_P G.1 classes [(a, .inr (2, [.ref b, .ref b3, .int (nI n)])), (b, .inl (G.2.2.1, 100, .inl g)), (b3, .inl (G.2.2.2, 100, .inl h))] H) (hD0 : va_D (fun _ => True) [(a, .inr (2, [.ref b, .ref b3, .int (nI n)])), (b, .inl (G.2.2.1, 100, .inl g)), (b3, .inl (G.2.2.2, 100, .inl h))]) (hn : n ≤ 100) : Met l y_V_tell (Cond.code y_V_tell b_V_tell 4 (some .boolean) :: TG) ({ frames := 1, cells := 0, slots := 0, locals := 22 }) (PC G H [.ref a, .int p1, .int p2]) (QMi G (tlr g n p1) [(a, .inr (2, [.ref b, .ref b3, .int (nI (tln g n p1))])), (b, .inl (G.2.2.1, 100, .inl (tlg g n p1))), (b3, .inl (G.2.2.2, 100, .inl (tlh g h n p1 p2)))] (va_A [(a, .inr (2, [.ref b, .ref b3, .int (nI n)])), (b, .inl (G.2.2.1, 100, .inl g)), (b3, .inl (G.2.2.2, 100, .inl h))] H.size)) 0 0 (va_A [(a, .inr (2, [.ref b, .ref b3, .int (nI n)])), (b, .inl (G.2.2.1, 100, .inl g)), (b3, .inl (G.2.2.2, 100, .inl h))] H.size) := by
  refine Met.ofW (cc := b_V_tell) (maxL := 4) (ret := (some .boolean)) (by decide) rfl ?_
  intro p e s m args below meth c s₁ B hml hv
  obtain ⟨rfl, hH, hKN⟩ := hv
  subst hH
  have hx := B.exec
  have hb := B.bytes
  have hr := B.returns
  have hts := atoms_spec (ws := (Cond.code y_V_tell b_V_tell 4 (some .boolean) :: TG)) B.pre
  have ht : ∀ w ∈ TG, w.before _ s = true := fun w h => hts w (List.mem_cons_of_mem _ h)
  have hown : s.vm.findClass R_V = some m.cls := findClass_of_methodNamed B.named
  have hlocks := B.notSynchronized
  have hK := hKN.1
  have hl := lv_entry ([.ref a, .int p1, .int p2]) (n := 4) (Nat.le_of_ble_eq_true rfl)
  rw [lg_entry_eq]
  generalize (lg_sl ([.ref a, .int p1, .int p2]) ++ List.replicate (4 - (lg_sl ([.ref a, .int p1, .int p2])).length) Slot.unset).toArray = ls at hl ⊢
  have hl : lv_has ls 4 [(0, .ref a), (1, .int p1), (2, .int p2)] := hl
  have hD := hD0.self (sz := s.heap.size)
  generalize hAe : va_A [(a, .inr (2, [.ref b, .ref b3, .int (nI n)])), (b, .inl (G.2.2.1, 100, .inl g)), (b3, .inl (G.2.2.2, 100, .inl h))] s.heap.size = A at hD ⊢
  have hA : ∀ q : Nat, s.heap.size ≤ q → A q := fun q h => by rw [← hAe]; exact Or.inr h
  have hS : va_S A s.heap s.heap [] := va_S.rf
  refine lv_aload_n hx hb d_V_tell_0 rfl (lv_at hl 0 rfl) ?_
  refine lv_iload_n hx hb d_V_tell_1 rfl (lv_at hl 1 rfl) ?_
  refine pr_i (ru_V (b := a) (As := [.int p1]) (rest := []) ⟨hx, hb, hml, hown, ht⟩ hKN (c_V_find l G _ a b b3 g h n p1 (hP.sub [0, 1, 2] rfl) hn) kc_V_23 ⟨rfl, rfl⟩ ⟨Nat.le_of_ble_eq_true rfl, Nat.le_of_ble_eq_true rfl⟩ (va_recv hK hP (ci := 2) (q0 := 0) rfl rfl) rfl hl.1 rfl (Nat.le_of_ble_eq_true rfl) d_V_tell_2 ⟨Nat.le_of_ble_eq_true rfl, Nat.le_of_ble_eq_true rfl⟩) ?_
  refine lv_istore_n (lv' := [(3, .int (nI (vf g p1 n 0))), (0, .ref a), (1, .int p1), (2, .int p2)]) hx hb d_V_tell_5 rfl hl (by decide) rfl (fun ls hl => ?_)
  refine lv_iload_n hx hb d_V_tell_6 rfl (lv_at hl 0 rfl) ?_
  refine lv_aload_n hx hb d_V_tell_7 rfl (lv_at hl 1 rfl) ?_
  refine va_get (D := G.1) (ci := 2) (v := .int (nI n)) (C := R_V) (T := F_V) (N := 3) hx hb ht in_V hown hK hP 0 rfl rfl 2 (by decide) (ht _ kf_V_19) (fun _ h9 => h9) rfl d_V_tell_8 ?_
  refine lv_icmp_ne (tgt := 42) hx hb d_V_tell_11 (by decide) (fun c1 => ?_) (fun c1 => ?_)
  · have hvi : vf g p1 n 0 < 100 := tl_in hn c1
    refine lv_aload_n hx hb d_V_tell_42 rfl (lv_at hl 1 rfl) ?_
    refine va_get (D := G.1) (ci := 2) (v := .ref b3) (C := R_V) (T := F_V) (N := 3) hx hb ht in_V hown hK hP 0 rfl rfl 1 (by decide) (ht _ kf_V_15) (fun _ h9 => h9) rfl d_V_tell_43 ?_
    refine lv_iload_n hx hb d_V_tell_46 rfl (lv_at hl 0 rfl) ?_
    refine lv_iload_n hx hb d_V_tell_47 rfl (lv_at hl 3 rfl) ?_
    refine va_zast hx hb hK hP hD hS 2 2 rfl rfl (i := (nI (vf g p1 n 0))) (vp_in_nI (show (vf g p1 n 0) < 100 by omega) (by omega)) d_V_tell_48 (fun H locs hP hD hS => ?_)
    rw [nI_clamp (show (vf g p1 n 0) < 2 ^ 31 by omega)] at hP hD
    have hP : va_P G.1 classes [(a, .inr (2, [.ref b, .ref b3, .int (nI n)])), (b, .inl (G.2.2.1, 100, .inl g)), (b3, .inl (G.2.2.2, 100, .inl (upd h (vf g p1 n 0) (vp_nar .boolean p2))))] H := hP
    have hD : va_D A [(a, .inr (2, [.ref b, .ref b3, .int (nI n)])), (b, .inl (G.2.2.1, 100, .inl g)), (b3, .inl (G.2.2.2, 100, .inl (upd h (vf g p1 n 0) (vp_nar .boolean p2))))] := hD
    refine lv_iconst (v := 1) hx hb d_V_tell_49 (by decide) ?_
    exact W.zret (v := 1) hx hb hr rfl (fun t h9 _ => ⟨⟨1, (), rfl, (by unfold tlr; rw [if_neg c1]), by show va_P _ _ _ t.heap; rw [h9]; exact (by rw [show tlg g n p1 = _ from (by unfold tlg; rw [if_neg c1]), show tlh g h n p1 p2 = _ from (by unfold tlh; rw [if_neg c1]), show tln g n p1 = _ from (by unfold tln; rw [if_neg c1])]; exact hP)⟩, hS.F h9⟩) hS.2.2 d_V_tell_50
  · refine lv_aload_n hx hb d_V_tell_14 rfl (lv_at hl 1 rfl) ?_
    refine va_get (D := G.1) (ci := 2) (v := .int (nI n)) (C := R_V) (T := F_V) (N := 3) hx hb ht in_V hown hK hP 0 rfl rfl 2 (by decide) (ht _ kf_V_19) (fun _ h9 => h9) rfl d_V_tell_15 ?_
    refine lv_bipush (v := 100) hx hb d_V_tell_18 (by decide) ?_
    refine lv_icmp_lt (tgt := 25) hx hb d_V_tell_20 (by decide) (fun c2 => ?_) (fun c2 => ?_)
    · have hvi : vf g p1 n 0 < 100 := tl_in2 hn c1 c2
      refine lv_aload_n hx hb d_V_tell_25 rfl (lv_at hl 1 rfl) ?_
      refine va_get (D := G.1) (ci := 2) (v := .ref b) (C := R_V) (T := F_V) (N := 3) hx hb ht in_V hown hK hP 0 rfl rfl 0 (by decide) (ht _ kf_V_9) (fun _ h9 => h9) rfl d_V_tell_26 ?_
      refine lv_iload_n hx hb d_V_tell_29 rfl (lv_at hl 0 rfl) ?_
      refine lv_iload_n hx hb d_V_tell_30 rfl (lv_at hl 2 rfl) ?_
      refine va_iast hx hb hK hP hD hS 1 1 rfl rfl (i := (nI (vf g p1 n 0))) (vp_in_nI (show (vf g p1 n 0) < 100 by omega) (by omega)) d_V_tell_31 (fun H locs hP hD hS => ?_)
      rw [nI_clamp (show (vf g p1 n 0) < 2 ^ 31 by omega)] at hP hD
      have hP : va_P G.1 classes [(a, .inr (2, [.ref b, .ref b3, .int (nI n)])), (b, .inl (G.2.2.1, 100, .inl (upd g (vf g p1 n 0) p1))), (b3, .inl (G.2.2.2, 100, .inl h))] H := hP
      have hD : va_D A [(a, .inr (2, [.ref b, .ref b3, .int (nI n)])), (b, .inl (G.2.2.1, 100, .inl (upd g (vf g p1 n 0) p1))), (b3, .inl (G.2.2.2, 100, .inl h))] := hD
      refine lv_aload_n hx hb d_V_tell_32 rfl (lv_at hl 1 rfl) ?_
      refine lv_dup hx hb d_V_tell_33 rfl ?_
      refine va_get (D := G.1) (ci := 2) (v := .int (nI n)) (C := R_V) (T := F_V) (N := 3) hx hb ht in_V hown hK hP 0 rfl rfl 2 (by decide) (ht _ kf_V_19) (fun _ h9 => h9) rfl d_V_tell_34 ?_
      refine lv_iconst (v := 1) hx hb d_V_tell_37 (by decide) ?_
      refine lv_iadd hx hb d_V_tell_38 ?_
      rw [show nI n + 1 = nI (n + 1) from nI_add n 1]
      refine va_put (D := G.1) (ci := 2) (v := .int (nI (n + 1))) (ty := .int) (C := R_V) (T := F_V) (N := 3) hx hb ht in_V t_V tk_V n_V hown hK hP hD hS 0 rfl rfl 2 (by decide) (ht _ kf_V_19) (fun _ h9 => h9) rfl (by decide +kernel) rfl rfl (Nat.le_of_ble_eq_true rfl) d_V_tell_39 (fun H locs hP hD hS => ?_)
      have hP : va_P G.1 classes [(a, .inr (2, [.ref b, .ref b3, .int (nI (n + 1))])), (b, .inl (G.2.2.1, 100, .inl (upd g (vf g p1 n 0) p1))), (b3, .inl (G.2.2.2, 100, .inl h))] H := hP
      have hD : va_D A [(a, .inr (2, [.ref b, .ref b3, .int (nI (n + 1))])), (b, .inl (G.2.2.1, 100, .inl (upd g (vf g p1 n 0) p1))), (b3, .inl (G.2.2.2, 100, .inl h))] := hD
      refine lv_aload_n hx hb d_V_tell_42 rfl (lv_at hl 1 rfl) ?_
      refine va_get (D := G.1) (ci := 2) (v := .ref b3) (C := R_V) (T := F_V) (N := 3) hx hb ht in_V hown hK hP 0 rfl rfl 1 (by decide) (ht _ kf_V_15) (fun _ h9 => h9) rfl d_V_tell_43 ?_
      refine lv_iload_n hx hb d_V_tell_46 rfl (lv_at hl 0 rfl) ?_
      refine lv_iload_n hx hb d_V_tell_47 rfl (lv_at hl 3 rfl) ?_
      refine va_zast hx hb hK hP hD hS 2 2 rfl rfl (i := (nI (vf g p1 n 0))) (vp_in_nI (show (vf g p1 n 0) < 100 by omega) (by omega)) d_V_tell_48 (fun H locs hP hD hS => ?_)
      rw [nI_clamp (show (vf g p1 n 0) < 2 ^ 31 by omega)] at hP hD
      have hP : va_P G.1 classes [(a, .inr (2, [.ref b, .ref b3, .int (nI (n + 1))])), (b, .inl (G.2.2.1, 100, .inl (upd g (vf g p1 n 0) p1))), (b3, .inl (G.2.2.2, 100, .inl (upd h (vf g p1 n 0) (vp_nar .boolean p2))))] H := hP
      have hD : va_D A [(a, .inr (2, [.ref b, .ref b3, .int (nI (n + 1))])), (b, .inl (G.2.2.1, 100, .inl (upd g (vf g p1 n 0) p1))), (b3, .inl (G.2.2.2, 100, .inl (upd h (vf g p1 n 0) (vp_nar .boolean p2))))] := hD
      refine lv_iconst (v := 1) hx hb d_V_tell_49 (by decide) ?_
      exact W.zret (v := 1) hx hb hr rfl (fun t h9 _ => ⟨⟨1, (), rfl, (by unfold tlr; rw [if_pos c1, if_pos c2]), by show va_P _ _ _ t.heap; rw [h9]; exact (by rw [show tlg g n p1 = _ from (by unfold tlg; rw [if_pos c1, if_pos c2]), show tlh g h n p1 p2 = _ from (by unfold tlh; rw [if_pos c1, if_pos c2]), show tln g n p1 = _ from (by unfold tln; rw [if_pos c1, if_pos c2])]; exact hP)⟩, hS.F h9⟩) hS.2.2 d_V_tell_50
    · refine lv_iconst (v := 0) hx hb d_V_tell_23 (by decide) ?_
      exact W.zret (v := 0) hx hb hr rfl (fun t h9 _ => ⟨⟨0, (), rfl, (by unfold tlr; rw [if_pos c1, if_neg c2]), by show va_P _ _ _ t.heap; rw [h9]; exact (by rw [show tlg g n p1 = _ from (by unfold tlg; rw [if_pos c1, if_neg c2]), show tlh g h n p1 p2 = _ from (by unfold tlh; rw [if_pos c1, if_neg c2]), show tln g n p1 = _ from (by unfold tln; rw [if_pos c1, if_neg c2])]; exact hP)⟩, hS.F h9⟩) hS.2.2 d_V_tell_24
