def hi (n : Nat) (f : Nat → Int64) (n2 : Nat) (f2 : Nat → Int64) (i : Nat) : Nat → Nat → Bool
  | 0, _ => true
  | kk + 1, w => if fn_D_fact n f (nI i) (nI w) = fn_D_fact n2 f2 (nI i) (nI w) then hi n f n2 f2 i kk (w + 1) else false
def ho (n : Nat) (f : Nat → Int64) (n2 : Nat) (f2 : Nat → Int64) : Nat → Nat → Bool
  | 0, _ => true
  | kk + 1, i => if hi n f n2 f2 i 4 1 = true then ho n f n2 f2 kk (i + 1) else false
def hsp (n : Nat) (fb : Int32) (f : Nat → Int64) (n2 : Nat) (fb2 : Int32) (f2 : Nat → Int64) : Int32 := if ho n f n2 f2 n 0 = true then (if fb = fb2 then 1 else 0) else 0
set_option maxHeartbeats 4000000 in
set_option maxRecDepth 100000 in
theorem c_P_haveSameParts (l : Launch) (G : GT) (H : Heap) (a : Nat) (b : Nat) (sd : Int64) (k : Int32) (n : Nat) (fb : Int32) (f : Nat → Int64) (a2 : Nat) (b2 : Nat) (sd2 : Int64) (k2 : Int32) (n2 : Nat) (fb2 : Int32) (f2 : Nat → Int64) (hP : va_P G.1 classes [(a, .inr (1, [.ref b, .long sd, .int k, .int (nI n), .int fb])), (b, .inl (G.2.1, 16, .inr (.inl f))), (a2, .inr (1, [.ref b2, .long sd2, .int k2, .int (nI n2), .int fb2])), (b2, .inl (G.2.1, 16, .inr (.inl f2)))] H) (hn : n ≤ 16) (hn2 : n2 ≤ 16) : Met l y_P_haveSameParts (Cond.code y_P_haveSameParts b_P_haveSameParts 4 (some .boolean) :: TG) ({ frames := 2, cells := 0, slots := 0, locals := 45 }) (PC G H [.ref a, .ref a2]) (QcRead (hsp n fb f n2 fb2 f2)) 0 0 (fun _ => False) := by
  refine Met.ofW (cc := b_P_haveSameParts) (maxL := 4) (ret := (some .boolean)) (by decide) rfl ?_
  intro p e s m args below meth c s₁ B hml hv
  obtain ⟨rfl, hH, hKN⟩ := hv
  subst hH
  have hx := B.exec
  have hb := B.bytes
  have hr := B.returns
  have hts := atoms_spec (ws := (Cond.code y_P_haveSameParts b_P_haveSameParts 4 (some .boolean) :: TG)) B.pre
  have ht : ∀ w ∈ TG, w.before _ s = true := fun w h => hts w (List.mem_cons_of_mem _ h)
  have hown : s.vm.findClass R_P = some m.cls := findClass_of_methodNamed B.named
  have hlocks := B.notSynchronized
  have hK := hKN.1
  have hl := lv_entry ([.ref a, .ref a2]) (n := 4) (Nat.le_of_ble_eq_true rfl)
  rw [lg_entry_eq]
  generalize (lg_sl ([.ref a, .ref a2]) ++ List.replicate (4 - (lg_sl ([.ref a, .ref a2])).length) Slot.unset).toArray = ls at hl ⊢
  have hl : lv_has ls 4 [(0, .ref a), (1, .ref a2)] := hl
  refine lv_iconst (v := 0) hx hb d_P_haveSameParts_0 (by decide) ?_
  refine lv_istore_n (lv' := [(2, .int 0), (0, .ref a), (1, .ref a2)]) hx hb d_P_haveSameParts_1 rfl hl (by decide) rfl (fun ls hl => ?_)
  have loop : ∀ (kk j : Nat) (ls : Array Slot), j + kk = n → ho n f n2 f2 kk j = ho n f n2 f2 n 0 → lv_has ls 4 [(0, .ref a), (1, .ref a2), (2, .int (nI j))] → W p l e (headSpec (Cond.code y_P_haveSameParts b_P_haveSameParts 4 (some .boolean) :: TG) ({ frames := 2, cells := 0, slots := 0, locals := 45 })).room s m ([.ref a, .ref a2] : List Value).toArray below meth c s.heap [] 0 0 (MQ below (QcRead (hsp n fb f n2 fb2 f2)) ([.ref a, .ref a2] : List Value).toArray s 0 0 (fun _ => False)) (F0 m 2 ls []) := by
    intro kk
    induction kk with
    | zero =>
      intro j  ls hj hv hl
      refine lv_iload_n hx hb d_P_haveSameParts_2 rfl (lv_at hl 2 rfl) ?_
      refine lv_aload_n hx hb d_P_haveSameParts_3 rfl (lv_at hl 0 rfl) ?_
      refine va_getN (D := G.1) (ci := 1) (v := .int (nI n)) (C := R_D) (T := F_D) (N := 5) hx hb ht in_D hown hK hP 0 rfl rfl 3 (by decide) (va_Nw.use rfl (hKN.2 _ kn_P_52 rfl)) (fun _ h9 => h9) rfl d_P_haveSameParts_4 ?_
      refine lv_icmp_ge (tgt := 46) hx hb d_P_haveSameParts_7 (by decide) (fun c1 => ?_) (fun c1 => ?_)
      · refine lv_aload_n hx hb d_P_haveSameParts_46 rfl (lv_at hl 0 rfl) ?_
        refine va_getN (D := G.1) (ci := 1) (v := .int fb) (C := R_D) (T := F_D) (N := 5) hx hb ht in_D hown hK hP 0 rfl rfl 4 (by decide) (va_Nw.use rfl (hKN.2 _ kn_P_131 rfl)) (fun _ h9 => h9) rfl d_P_haveSameParts_47 ?_
        refine lv_aload_n hx hb d_P_haveSameParts_50 rfl (lv_at hl 1 rfl) ?_
        refine va_getN (D := G.1) (ci := 1) (v := .int fb2) (C := R_D) (T := F_D) (N := 5) hx hb ht in_D hown hK hP 2 rfl rfl 4 (by decide) (va_Nw.use rfl (hKN.2 _ kn_P_131 rfl)) (fun _ h9 => h9) rfl d_P_haveSameParts_51 ?_
        refine lv_icmp_ne (tgt := 61) hx hb d_P_haveSameParts_54 (by decide) (fun c2 => ?_) (fun c2 => ?_)
        · refine lv_iconst (v := 0) hx hb d_P_haveSameParts_61 (by decide) ?_
          exact W.zret (v := 0) hx hb hr rfl (fun t h9 _ => ⟨congrArg (fun z => Outcome.returned (some (Value.int z))) (by unfold hsp; rw [if_pos (show ho n f n2 f2 n 0 = true from by rw [← hv]; rfl), if_neg c2]), h9⟩) (fun _ h => nomatch h) d_P_haveSameParts_62
        · refine lv_iconst (v := 1) hx hb d_P_haveSameParts_57 (by decide) ?_
          refine lv_goto (tgt := 62) hx hb d_P_haveSameParts_58 (by decide) ?_
          exact W.zret (v := 1) hx hb hr rfl (fun t h9 _ => ⟨congrArg (fun z => Outcome.returned (some (Value.int z))) (by unfold hsp; rw [if_pos (show ho n f n2 f2 n 0 = true from by rw [← hv]; rfl), if_pos c2]), h9⟩) (fun _ h => nomatch h) d_P_haveSameParts_62
      · exact absurd (show nI n ≤ nI j from nI_le (by omega) (by omega)) c1
    | succ kk ih =>
      intro j  ls hj hv hl
      refine lv_iload_n hx hb d_P_haveSameParts_2 rfl (lv_at hl 2 rfl) ?_
      refine lv_aload_n hx hb d_P_haveSameParts_3 rfl (lv_at hl 0 rfl) ?_
      refine va_getN (D := G.1) (ci := 1) (v := .int (nI n)) (C := R_D) (T := F_D) (N := 5) hx hb ht in_D hown hK hP 0 rfl rfl 3 (by decide) (va_Nw.use rfl (hKN.2 _ kn_P_52 rfl)) (fun _ h9 => h9) rfl d_P_haveSameParts_4 ?_
      refine lv_icmp_ge (tgt := 46) hx hb d_P_haveSameParts_7 (by decide) (fun c3 => ?_) (fun c3 => ?_)
      · exact absurd c3 (nI_ge (show j < n by omega) (by omega))
      · refine lv_iconst (v := 1) hx hb d_P_haveSameParts_10 (by decide) ?_
        refine lv_istore_n (lv' := [(3, .int 1), (0, .ref a), (1, .ref a2), (2, .int (nI j))]) hx hb d_P_haveSameParts_11 rfl hl (by decide) rfl (fun ls hl => ?_)
        have loop2 : ∀ (kk2 j2 : Nat) (ls : Array Slot), j2 + kk2 = 5 → hi n f n2 f2 j kk2 j2 = hi n f n2 f2 j 4 1 → lv_has ls 4 [(0, .ref a), (1, .ref a2), (2, .int (nI j)), (3, .int (nI j2))] → W p l e (headSpec (Cond.code y_P_haveSameParts b_P_haveSameParts 4 (some .boolean) :: TG) ({ frames := 2, cells := 0, slots := 0, locals := 45 })).room s m ([.ref a, .ref a2] : List Value).toArray below meth c s.heap [] 0 0 (MQ below (QcRead (hsp n fb f n2 fb2 f2)) ([.ref a, .ref a2] : List Value).toArray s 0 0 (fun _ => False)) (F0 m 12 ls []) := by
          intro kk2
          induction kk2 with
          | zero =>
            intro j2  ls hj2 hv2 hl
            refine lv_iload_n hx hb d_P_haveSameParts_12 rfl (lv_at hl 3 rfl) ?_
            refine lv_iconst (v := 4) hx hb d_P_haveSameParts_13 (by decide) ?_
            refine lv_icmp_gt (tgt := 40) hx hb d_P_haveSameParts_14 (by decide) (fun c4 => ?_) (fun c4 => ?_)
            · refine lv_iinc (v := nI (j + 1)) (lv' := [(2, .int (nI (j + 1))), (0, .ref a), (1, .ref a2), (3, .int (nI j2))]) hx hb d_P_haveSameParts_40 hl (k := 2) rfl (nI_1 j) (by decide) rfl (fun ls hl => ?_)
              refine lv_goto (tgt := 2) hx hb d_P_haveSameParts_43 (by decide) ?_
              exact ih (j + 1) ls (by omega) (by rw [← hv]; simp only [ho]; rw [if_pos (show hi n f n2 f2 j 4 1 = true from by rw [← hv2]; rfl)]) (lv_sub hl [1, 2, 0] rfl)
            · exact absurd (show (4 : Int32) < nI j2 from by rw [show j2 = 5 by omega]; decide) c4
          | succ kk2 ih2 =>
            intro j2  ls hj2 hv2 hl
            refine lv_iload_n hx hb d_P_haveSameParts_12 rfl (lv_at hl 3 rfl) ?_
            refine lv_iconst (v := 4) hx hb d_P_haveSameParts_13 (by decide) ?_
            refine lv_icmp_gt (tgt := 40) hx hb d_P_haveSameParts_14 (by decide) (fun c5 => ?_) (fun c5 => ?_)
            · exact absurd c5 (nI_nlt (show j2 ≤ 4 by omega) (show 4 < 2 ^ 31 by omega))
            · refine lv_aload_n hx hb d_P_haveSameParts_17 rfl (lv_at hl 0 rfl) ?_
              refine lv_iload_n hx hb d_P_haveSameParts_18 rfl (lv_at hl 2 rfl) ?_
              refine lv_iload_n hx hb d_P_haveSameParts_19 rfl (lv_at hl 3 rfl) ?_
              refine pr_i (ru_V (b := a) (As := [.int (nI j), .int (nI j2)]) (rest := []) ⟨hx, hb, hml, hown, ht⟩ hKN (c_D_fact l G _ a b sd k n fb f (nI j) (nI j2) (hP.sub [0, 1] rfl) hn) kc_P_62 ⟨rfl, rfl⟩ ⟨Nat.le_of_ble_eq_true rfl, Nat.le_of_ble_eq_true rfl⟩ (va_recv hK hP (ci := 1) (q0 := 0) rfl rfl) rfl hl.1 rfl (Nat.le_of_ble_eq_true rfl) d_P_haveSameParts_20 ⟨Nat.le_of_ble_eq_true rfl, Nat.le_of_ble_eq_true rfl⟩) ?_
              refine lv_aload_n hx hb d_P_haveSameParts_23 rfl (lv_at hl 1 rfl) ?_
              refine lv_iload_n hx hb d_P_haveSameParts_24 rfl (lv_at hl 2 rfl) ?_
              refine lv_iload_n hx hb d_P_haveSameParts_25 rfl (lv_at hl 3 rfl) ?_
              refine pr_i (ru_V (b := a2) (As := [.int (nI j), .int (nI j2)]) (rest := [.int (fn_D_fact n f (nI j) (nI j2))]) ⟨hx, hb, hml, hown, ht⟩ hKN (c_D_fact l G _ a2 b2 sd2 k2 n2 fb2 f2 (nI j) (nI j2) (hP.sub [2, 3] rfl) hn2) kc_P_62 ⟨rfl, rfl⟩ ⟨Nat.le_of_ble_eq_true rfl, Nat.le_of_ble_eq_true rfl⟩ (va_recv hK hP (ci := 1) (q0 := 2) rfl rfl) rfl hl.1 rfl (Nat.le_of_ble_eq_true rfl) d_P_haveSameParts_26 ⟨Nat.le_of_ble_eq_true rfl, Nat.le_of_ble_eq_true rfl⟩) ?_
              refine lv_icmp_eq (tgt := 34) hx hb d_P_haveSameParts_29 (by decide) (fun c6 => ?_) (fun c6 => ?_)
              · refine lv_iinc (v := nI (j2 + 1)) (lv' := [(3, .int (nI (j2 + 1))), (0, .ref a), (1, .ref a2), (2, .int (nI j))]) hx hb d_P_haveSameParts_34 hl (k := 3) rfl (nI_1 j2) (by decide) rfl (fun ls hl => ?_)
                refine lv_goto (tgt := 12) hx hb d_P_haveSameParts_37 (by decide) ?_
                exact ih2 (j2 + 1) ls (by omega) (by rw [← hv2]; simp only [hi]; rw [if_pos c6]) (lv_sub hl [1, 2, 3, 0] rfl)
              · refine lv_iconst (v := 0) hx hb d_P_haveSameParts_32 (by decide) ?_
                have e1 : hi n f n2 f2 j 4 1 = false := by rw [← hv2]; simp only [hi]; rw [if_neg c6]
                have e2 : ho n f n2 f2 n 0 = false := by rw [← hv]; simp only [ho]; rw [e1]; rfl
                exact W.zret (v := 0) hx hb hr rfl (fun t h9 _ => ⟨congrArg (fun z => Outcome.returned (some (Value.int z))) (by unfold hsp; rw [e2]; rfl), h9⟩) (fun _ h => nomatch h) d_P_haveSameParts_33
        exact loop2 4 1 ls (by omega) rfl (by exact lv_sub hl [1, 2, 3, 0] rfl)
  exact loop n 0 ls (by omega) rfl (by exact lv_sub hl [1, 2, 0] rfl)
