theorem law_in {L i : Nat} (hL : L ≤ 2561) (hi : i ≤ L + 5) (h : ¬ (Int32.ofNat L - 5) < nI i) : i + 5 ≤ L := by
  have e : (Int32.ofNat L - 5).toInt = (L : Int) - 5 := pk_sub_toInt (a := L) (b := 5) (by omega) (by omega)
  rw [Int32.lt_iff_toInt_lt, e, nI_toInt (by omega)] at h
  omega
set_option maxHeartbeats 4000000 in
set_option maxRecDepth 100000 in
/-- THE LAW'S LOOP -/
theorem law_loop {p : Program} {l : Launch} {e : Env} {s : State} {m : MethodId} {below : List Frame} {meth : Method} {c : Code} {b L : Nat} {xs : Nat → Int32} {G : GT} {A : Nat → Prop} {tt : Nat} (hL : L ≤ 2561) (C : LC p s m meth c b L xs G A tt) (hA2 : ∀ q, A q → s.heap.size ≤ q) {x mm : Nat} :
    ∀ (N i : Nat) (H : Heap) (locs : List Loc) (ls : Array Slot), i ≤ L + 5 → L + 5 < i + 5 * N → Wd G A x mm H → va_S A s.heap H locs → lv_has ls 4 [(0, .ref b), (1, .ref x), (2, .ref mm), (3, .int (nI i))] → W p l e room_1 s m #[Value.ref b] below meth c H locs 14 492 (lw_Z below #[Value.ref b] s) (F0 m 28 ls []) := by
  obtain ⟨hx, hb, hr, hml, hown, ht, hKN, hX, hbl, hlocks, hA, hbA, hZ, hT⟩ := id C
  intro N
  induction N with
  | zero =>
    intro i H locs ls h1 h2
    exact absurd h2 (by omega)
  | succ N ih =>
    intro i H locs ls hiL hN hW hS hl
    refine lv_iload_n hx hb d_L_law_28 rfl (lv_at hl 3 rfl) ?_
    refine lv_aload_n hx hb d_L_law_29 rfl (lv_at hl 0 rfl) ?_
    refine va_slen hx hb hX hbl hbA hS d_L_law_30 ?_
    refine lv_iconst (v := 5) hx hb d_L_law_31 (by decide) ?_
    refine lv_isub hx hb d_L_law_32 ?_
    refine lv_icmp_gt (tgt := 459) hx hb d_L_law_33 (by decide) (fun c1 => ?_) (fun c1 => ?_)
    · refine lv_iconst (v := 1) hx hb d_L_law_459 (by decide) ?_
      refine va_forget (fun q hq => hA2 _ (hS.2.2 q hq)) ?_
      exact lw_ret hx hb hr hlocks d_L_law_460
    · have hi : i + 5 ≤ L := law_in hL hiL c1
      have next : ∀ (H : Heap) (locs : List Loc) (ls : Array Slot), Wd G A x mm H → va_S A s.heap H locs → lv_has ls 4 [(0, .ref b), (1, .ref x), (2, .ref mm), (3, .int (nI i))] → W p l e room_1 s m #[Value.ref b] below meth c H locs 14 492 (lw_Z below #[Value.ref b] s) (F0 m 453 ls []) := by
        intro H locs ls hW hS hl
        refine lv_iinc (v := nI (i + 5)) (lv' := [(3, .int (nI (i + 5))), (0, .ref b), (1, .ref x), (2, .ref mm)]) hx hb d_L_law_453 hl (k := 3) rfl (nI_add i 5) (by decide) rfl (fun ls hl => ?_)
        refine lv_goto (tgt := 28) hx hb d_L_law_456 (by decide) ?_
        exact ih (i + 5) H locs ls (by omega) (by omega) hW hS (lv_sub hl [1, 2, 3, 0] rfl)
      refine lv_aload_n hx hb d_L_law_36 rfl (lv_at hl 0 rfl) ?_
      refine lv_iload_n hx hb d_L_law_37 rfl (lv_at hl 3 rfl) ?_
      refine va_sld hx hb hX hbl hbA hS (i := nI i) (vp_in_nI (show i < L by omega) (by omega)) d_L_law_38 ?_
      rw [nI_clamp (show i < 2 ^ 31 by omega)]
      refine lv_bipush (v := 15) hx hb d_L_law_39 (by decide) ?_
      refine lv_iand hx hb d_L_law_41 ?_
      obtain ⟨j, hj, ej⟩ := pk_andE (xs i) (m := 15) 4 (by decide)
      rw [ej]
      have hj : j < 16 := hj
      rcases (show j = 0 ∨ j = 1 ∨ j = 2 ∨ j = 3 ∨ j = 4 ∨ j = 5 ∨ j = 6 ∨ j = 7 ∨ j = 8 ∨ j = 9 ∨ j = 10 ∨ j = 11 ∨ j = 12 ∨ j = 13 ∨ j = 14 ∨ j = 15 by omega) with rfl | rfl | rfl | rfl | rfl | rfl | rfl | rfl | rfl | rfl | rfl | rfl | rfl | rfl | rfl | rfl
      · refine lv_tableIn (tgt := 96) hx hb d_L_law_42 (by decide) (by decide) rfl (by decide) ?_
        exact law_case0 hL C hi hW hS hl next
      · refine lv_tableIn (tgt := 150) hx hb d_L_law_42 (by decide) (by decide) rfl (by decide) ?_
        exact law_case1 hL C hi hW hS hl next
      · refine lv_tableIn (tgt := 183) hx hb d_L_law_42 (by decide) (by decide) rfl (by decide) ?_
        exact law_case2 hL C hi hW hS hl next
      · refine lv_tableIn (tgt := 216) hx hb d_L_law_42 (by decide) (by decide) rfl (by decide) ?_
        exact law_case3 hL C hi hW hS hl next
      · refine lv_tableIn (tgt := 259) hx hb d_L_law_42 (by decide) (by decide) rfl (by decide) ?_
        exact law_case4 hL C hi hW hS hl next
      · refine lv_tableIn (tgt := 308) hx hb d_L_law_42 (by decide) (by decide) rfl (by decide) ?_
        exact law_case5 hL C hi hW hS hl next
      · refine lv_tableIn (tgt := 321) hx hb d_L_law_42 (by decide) (by decide) rfl (by decide) ?_
        exact law_case6 hL C hi hW hS hl next
      · refine lv_tableIn (tgt := 344) hx hb d_L_law_42 (by decide) (by decide) rfl (by decide) ?_
        exact law_case7 hL C hi hW hS hl next
      · refine lv_tableIn (tgt := 357) hx hb d_L_law_42 (by decide) (by decide) rfl (by decide) ?_
        exact law_case8 hL C hi hW hS hl next
      · refine lv_tableIn (tgt := 380) hx hb d_L_law_42 (by decide) (by decide) rfl (by decide) ?_
        exact law_case9 hL C hi hW hS hl next
      · refine lv_tableOut (tgt := 453) hx hb d_L_law_42 (Or.inr (by decide)) (by decide) ?_
        exact next H locs ls hW hS hl
      · refine lv_tableOut (tgt := 453) hx hb d_L_law_42 (Or.inr (by decide)) (by decide) ?_
        exact next H locs ls hW hS hl
      · refine lv_tableOut (tgt := 453) hx hb d_L_law_42 (Or.inr (by decide)) (by decide) ?_
        exact next H locs ls hW hS hl
      · refine lv_tableOut (tgt := 453) hx hb d_L_law_42 (Or.inr (by decide)) (by decide) ?_
        exact next H locs ls hW hS hl
      · refine lv_tableOut (tgt := 453) hx hb d_L_law_42 (Or.inr (by decide)) (by decide) ?_
        exact next H locs ls hW hS hl
      · refine lv_tableOut (tgt := 453) hx hb d_L_law_42 (Or.inr (by decide)) (by decide) ?_
        exact next H locs ls hW hS hl
