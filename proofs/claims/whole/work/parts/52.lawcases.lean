set_option maxHeartbeats 4000000 in
set_option maxRecDepth 100000 in
theorem law_case0 {p : Program} {l : Launch} {e : Env} {s : State} {m : MethodId} {below : List Frame} {meth : Method} {c : Code} {b L : Nat} {xs : Nat → Int32} {G : GT} {A : Nat → Prop} {tt : Nat} (hL : L ≤ 2561) (C : LC p s m meth c b L xs G A tt) {i x mm : Nat} (hi : i + 5 ≤ L) {H : Heap} {locs : List Loc} {ls : Array Slot} (hW : Wd G A x mm H) (hS : va_S A s.heap H locs) (hl : lv_has ls 4 [(0, .ref b), (1, .ref x), (2, .ref mm), (3, .int (nI i))])
    (next : ∀ (H : Heap) (locs : List Loc) (ls : Array Slot), Wd G A x mm H → va_S A s.heap H locs → lv_has ls 4 [(0, .ref b), (1, .ref x), (2, .ref mm), (3, .int (nI i))] → W p l e room_1 s m #[Value.ref b] below meth c H locs 14 492 (lw_Z below #[Value.ref b] s) (F0 m 453 ls [])) : W p l e room_1 s m #[Value.ref b] below meth c H locs 14 492 (lw_Z below #[Value.ref b] s) (F0 m 96 ls []) := by
  obtain ⟨hx, hb, hr, hml, hown, ht, hKN, hX, hbl, hlocks, hA, hbA, hZ, hT⟩ := C
  have hK := hKN.1
  obtain ⟨d1, d2, v1, v2, v3, o1, t1, sd, k, n, fb, f, g, h, q, ns, B, o2, sO, kO, nO, bO, fO, t2, sT, kT, nT, bT, fT, w1, w2, w3, sdM, kM, hP, hD, hR, hnO, hnT⟩ := hW
  obtain ⟨hn, hq, hd, hz, hB, hk⟩ := id hR
  refine lv_aload_n hx hb d_L_law_96 rfl (lv_at hl 1 rfl) ?_
  refine lv_aload_n hx hb d_L_law_97 rfl (lv_at hl 0 rfl) ?_
  refine lv_iload_n hx hb d_L_law_98 rfl (lv_at hl 3 rfl) ?_
  refine lv_iconst (v := 1) hx hb d_L_law_99 (by decide) ?_
  refine lv_iadd hx hb d_L_law_100 ?_
  rw [show nI i + 1 = nI (i + 1) from nI_add i 1]
  refine va_sld hx hb hX hbl hbA hS (i := nI (i + 1)) (vp_in_nI (show (i + 1) < L by omega) (by omega)) d_L_law_101 ?_
  rw [nI_clamp (show (i + 1) < 2 ^ 31 by omega)]
  refine lv_i2l hx hb d_L_law_102 rfl ?_
  refine lv_bipush (v := 32) hx hb d_L_law_103 (by decide) ?_
  refine lv_lshl hx hb d_L_law_105 rfl ?_
  refine lv_aload_n hx hb d_L_law_106 rfl (lv_at hl 0 rfl) ?_
  refine lv_iload_n hx hb d_L_law_107 rfl (lv_at hl 3 rfl) ?_
  refine lv_iconst (v := 2) hx hb d_L_law_108 (by decide) ?_
  refine lv_iadd hx hb d_L_law_109 ?_
  rw [show nI i + 2 = nI (i + 2) from nI_add i 2]
  refine va_sld hx hb hX hbl hbA hS (i := nI (i + 2)) (vp_in_nI (show (i + 2) < L by omega) (by omega)) d_L_law_110 ?_
  rw [nI_clamp (show (i + 2) < 2 ^ 31 by omega)]
  refine lv_i2l hx hb d_L_law_111 rfl ?_
  refine lv_ldc2 (v := 4294967295) hx hb hown (ht _ kl_L_21) d_L_law_112 ?_
  refine lv_land hx hb d_L_law_115 ?_
  refine lv_lor hx hb d_L_law_116 ?_
  refine mu_l (wr := [(o1, .inr (1, [.ref o2, .long sO, .int kO, .int (nI nO), .int bO])), (o2, .inl (G.2.1, 16, .inr (.inl fO))), (t1, .inr (1, [.ref t2, .long sT, .int kT, .int (nI nT), .int bT])), (t2, .inl (G.2.1, 16, .inr (.inl fT))), (mm, .inr (3, [.int 0, .long ns, .long sdM, .int (nI n), .int kM, .int (nI B), .int (nI q), .ref w1, .ref w2, .ref w3])), (w1, .inl (G.2.2.1, 100, .inl g)), (w2, .inl (G.2.2.2, 100, .inl h)), (w3, .inl (G.2.2.1, 10, .inl ink0))]) (wn := [(x, .inr (0, [.ref d1, .ref v1, .ref o1, .ref t1, .long ((((xs (i + 1)).toInt64) <<< ((32 : Int32).toInt64 &&& 63)) ||| (((xs (i + 2)).toInt64) &&& 4294967295)), .int (nI B)])), (d1, .inr (1, [.ref d2, .long sd, .int k, .int (nI n), .int fb])), (d2, .inl (G.2.1, 16, .inr (.inl f))), (v1, .inr (2, [.ref v2, .ref v3, .int (nI q)])), (v2, .inl (G.2.2.1, 100, .inl g)), (v3, .inl (G.2.2.2, 100, .inl h)), (o1, .inr (1, [.ref o2, .long sO, .int kO, .int (nI nO), .int bO])), (o2, .inl (G.2.1, 16, .inr (.inl fO))), (t1, .inr (1, [.ref t2, .long sT, .int kT, .int (nI nT), .int bT])), (t2, .inl (G.2.1, 16, .inr (.inl fT))), (mm, .inr (3, [.int 0, .long ns, .long sdM, .int (nI n), .int kM, .int (nI B), .int (nI q), .ref w1, .ref w2, .ref w3])), (w1, .inl (G.2.2.1, 100, .inl g)), (w2, .inl (G.2.2.2, 100, .inl h)), (w3, .inl (G.2.2.1, 10, .inl ink0))]) (ru_V (b := x) (As := [.long ((((xs (i + 1)).toInt64) <<< ((32 : Int32).toInt64 &&& 63)) ||| (((xs (i + 2)).toInt64) &&& 4294967295))]) (rest := []) ⟨hx, hb, hml, hown, ht⟩ hKN (c_P_seed l G _ x d1 d2 v1 v2 v3 o1 t1 sd k n fb f g h q ns (nI B) ((((xs (i + 1)).toInt64) <<< ((32 : Int32).toInt64 &&& 63)) ||| (((xs (i + 2)).toInt64) &&& 4294967295)) (hP.sub [0, 1, 2, 3, 4, 5] rfl) ((hD.sub (ws' := [(x, .inr (0, [.ref d1, .ref v1, .ref o1, .ref t1, .long ns, .int (nI B)])), (d1, .inr (1, [.ref d2, .long sd, .int k, .int (nI n), .int fb])), (d2, .inl (G.2.1, 16, .inr (.inl f))), (v1, .inr (2, [.ref v2, .ref v3, .int (nI q)])), (v2, .inl (G.2.2.1, 100, .inl g)), (v3, .inl (G.2.2.2, 100, .inl h))]) [0, 1, 2, 3, 4, 5] (by decide) rfl).weaken (fun _ _ _ _ => trivial)) hn hq) kc_L_23 ⟨rfl, rfl⟩ ⟨Nat.le_of_ble_eq_true rfl, Nat.le_of_ble_eq_true rfl⟩ (va_recv hK hP (ci := 0) (q0 := 0) rfl rfl) rfl hl.1 rfl (Nat.le_of_ble_eq_true rfl) d_L_law_117 ⟨Nat.le_of_ble_eq_true rfl, Nat.le_of_ble_eq_true rfl⟩) hP hD hS hA [0, 1, 2, 3, 4, 5] [6, 7, 8, 9, 10, 11, 12, 13] [8, 9, 10, 11, 12, 13, 0, 1, 2, 3, 4, 5, 6, 7] rfl rfl ⟨by decide, by decide, by decide⟩ (by decide) rfl rfl (fun H locs hP hD hS => ?_)
  refine lv_aload_n hx hb d_L_law_120 rfl (lv_at hl 2 rfl) ?_
  refine lv_aload_n hx hb d_L_law_121 rfl (lv_at hl 0 rfl) ?_
  refine lv_iload_n hx hb d_L_law_122 rfl (lv_at hl 3 rfl) ?_
  refine lv_iconst (v := 1) hx hb d_L_law_123 (by decide) ?_
  refine lv_iadd hx hb d_L_law_124 ?_
  rw [show nI i + 1 = nI (i + 1) from nI_add i 1]
  refine va_sld hx hb hX hbl hbA hS (i := nI (i + 1)) (vp_in_nI (show (i + 1) < L by omega) (by omega)) d_L_law_125 ?_
  rw [nI_clamp (show (i + 1) < 2 ^ 31 by omega)]
  refine lv_i2l hx hb d_L_law_126 rfl ?_
  refine lv_bipush (v := 32) hx hb d_L_law_127 (by decide) ?_
  refine lv_lshl hx hb d_L_law_129 rfl ?_
  refine lv_aload_n hx hb d_L_law_130 rfl (lv_at hl 0 rfl) ?_
  refine lv_iload_n hx hb d_L_law_131 rfl (lv_at hl 3 rfl) ?_
  refine lv_iconst (v := 2) hx hb d_L_law_132 (by decide) ?_
  refine lv_iadd hx hb d_L_law_133 ?_
  rw [show nI i + 2 = nI (i + 2) from nI_add i 2]
  refine va_sld hx hb hX hbl hbA hS (i := nI (i + 2)) (vp_in_nI (show (i + 2) < L by omega) (by omega)) d_L_law_134 ?_
  rw [nI_clamp (show (i + 2) < 2 ^ 31 by omega)]
  refine lv_i2l hx hb d_L_law_135 rfl ?_
  refine lv_ldc2 (v := 4294967295) hx hb hown (ht _ kl_L_21) d_L_law_136 ?_
  refine lv_land hx hb d_L_law_139 ?_
  refine lv_lor hx hb d_L_law_140 ?_
  refine mu_l (wr := [(x, .inr (0, [.ref d1, .ref v1, .ref o1, .ref t1, .long ((((xs (i + 1)).toInt64) <<< ((32 : Int32).toInt64 &&& 63)) ||| (((xs (i + 2)).toInt64) &&& 4294967295)), .int (nI B)])), (d1, .inr (1, [.ref d2, .long sd, .int k, .int (nI n), .int fb])), (d2, .inl (G.2.1, 16, .inr (.inl f))), (v1, .inr (2, [.ref v2, .ref v3, .int (nI q)])), (v2, .inl (G.2.2.1, 100, .inl g)), (v3, .inl (G.2.2.2, 100, .inl h)), (o1, .inr (1, [.ref o2, .long sO, .int kO, .int (nI nO), .int bO])), (o2, .inl (G.2.1, 16, .inr (.inl fO))), (t1, .inr (1, [.ref t2, .long sT, .int kT, .int (nI nT), .int bT])), (t2, .inl (G.2.1, 16, .inr (.inl fT)))]) (wn := [(x, .inr (0, [.ref d1, .ref v1, .ref o1, .ref t1, .long ((((xs (i + 1)).toInt64) <<< ((32 : Int32).toInt64 &&& 63)) ||| (((xs (i + 2)).toInt64) &&& 4294967295)), .int (nI B)])), (d1, .inr (1, [.ref d2, .long sd, .int k, .int (nI n), .int fb])), (d2, .inl (G.2.1, 16, .inr (.inl f))), (v1, .inr (2, [.ref v2, .ref v3, .int (nI q)])), (v2, .inl (G.2.2.1, 100, .inl g)), (v3, .inl (G.2.2.2, 100, .inl h)), (o1, .inr (1, [.ref o2, .long sO, .int kO, .int (nI nO), .int bO])), (o2, .inl (G.2.1, 16, .inr (.inl fO))), (t1, .inr (1, [.ref t2, .long sT, .int kT, .int (nI nT), .int bT])), (t2, .inl (G.2.1, 16, .inr (.inl fT))), (mm, .inr (3, [.int 0, .long ((((xs (i + 1)).toInt64) <<< ((32 : Int32).toInt64 &&& 63)) ||| (((xs (i + 2)).toInt64) &&& 4294967295)), .long sdM, .int (nI n), .int kM, .int (nI B), .int (nI q), .ref w1, .ref w2, .ref w3])), (w1, .inl (G.2.2.1, 100, .inl g)), (w2, .inl (G.2.2.2, 100, .inl h)), (w3, .inl (G.2.2.1, 10, .inl ink0))]) (ru_V (b := mm) (As := [.long ((((xs (i + 1)).toInt64) <<< ((32 : Int32).toInt64 &&& 63)) ||| (((xs (i + 2)).toInt64) &&& 4294967295))]) (rest := [.long (ns)]) ⟨hx, hb, hml, hown, ht⟩ hKN (c_M_seed l G _ mm w1 w2 w3 ns sdM n kM (nI B) q g h ink0 ((((xs (i + 1)).toInt64) <<< ((32 : Int32).toInt64 &&& 63)) ||| (((xs (i + 2)).toInt64) &&& 4294967295)) (hP.sub [10, 11, 12, 13] rfl) ((hD.sub (ws' := [(mm, .inr (3, [.int 0, .long ns, .long sdM, .int (nI n), .int kM, .int (nI B), .int (nI q), .ref w1, .ref w2, .ref w3])), (w1, .inl (G.2.2.1, 100, .inl g)), (w2, .inl (G.2.2.2, 100, .inl h)), (w3, .inl (G.2.2.1, 10, .inl ink0))]) [10, 11, 12, 13] (by decide) rfl).weaken (fun _ _ _ _ => trivial)) hn hq) kc_L_27 ⟨rfl, rfl⟩ ⟨Nat.le_of_ble_eq_true rfl, Nat.le_of_ble_eq_true rfl⟩ (va_recv hK hP (ci := 3) (q0 := 10) rfl rfl) rfl hl.1 rfl (Nat.le_of_ble_eq_true rfl) d_L_law_141 ⟨Nat.le_of_ble_eq_true rfl, Nat.le_of_ble_eq_true rfl⟩) hP hD hS hA [10, 11, 12, 13] [0, 1, 2, 3, 4, 5, 6, 7, 8, 9] [0, 1, 2, 3, 4, 5, 6, 7, 8, 9, 10, 11, 12, 13] rfl rfl ⟨by decide, by decide, by decide⟩ (by decide) rfl rfl (fun H locs hP hD hS => ?_)
  refine W.lcmp hx hb d_L_law_144 ?_
  refine lv_if_eq (tgt := 453) hx hb d_L_law_145 (by decide) (fun c1 => ?_) (fun c1 => ?_)
  · exact next H locs ls ⟨d1, d2, v1, v2, v3, o1, t1, sd, k, n, fb, f, g, h, q, (((xs (i + 1)).toInt64 <<< ((32 : Int32).toInt64 &&& 63)) ||| ((xs (i + 2)).toInt64 &&& 4294967295)), B, o2, sO, kO, nO, bO, fO, t2, sT, kT, nT, bT, fT, w1, w2, w3, sdM, kM, hP, hD, hR, hnO, hnT⟩ hS (lv_sub hl [0, 1, 2, 3] rfl)
  · exact absurd ((lg_cmp_eq ns ns).mpr rfl) c1
set_option maxHeartbeats 4000000 in
set_option maxRecDepth 100000 in
theorem law_case1 {p : Program} {l : Launch} {e : Env} {s : State} {m : MethodId} {below : List Frame} {meth : Method} {c : Code} {b L : Nat} {xs : Nat → Int32} {G : GT} {A : Nat → Prop} {tt : Nat} (hL : L ≤ 2561) (C : LC p s m meth c b L xs G A tt) {i x mm : Nat} (hi : i + 5 ≤ L) {H : Heap} {locs : List Loc} {ls : Array Slot} (hW : Wd G A x mm H) (hS : va_S A s.heap H locs) (hl : lv_has ls 4 [(0, .ref b), (1, .ref x), (2, .ref mm), (3, .int (nI i))])
    (next : ∀ (H : Heap) (locs : List Loc) (ls : Array Slot), Wd G A x mm H → va_S A s.heap H locs → lv_has ls 4 [(0, .ref b), (1, .ref x), (2, .ref mm), (3, .int (nI i))] → W p l e room_1 s m #[Value.ref b] below meth c H locs 14 492 (lw_Z below #[Value.ref b] s) (F0 m 453 ls [])) : W p l e room_1 s m #[Value.ref b] below meth c H locs 14 492 (lw_Z below #[Value.ref b] s) (F0 m 150 ls []) := by
  obtain ⟨hx, hb, hr, hml, hown, ht, hKN, hX, hbl, hlocks, hA, hbA, hZ, hT⟩ := C
  have hK := hKN.1
  obtain ⟨d1, d2, v1, v2, v3, o1, t1, sd, k, n, fb, f, g, h, q, ns, B, o2, sO, kO, nO, bO, fO, t2, sT, kT, nT, bT, fT, w1, w2, w3, sdM, kM, hP, hD, hR, hnO, hnT⟩ := hW
  obtain ⟨hn, hq, hd, hz, hB, hk⟩ := id hR
  by_cases hdr : fn_P_isDrawable (xs (i + 1)) (xs (i + 2)) = 0
  · have hdrM : mdr (xs (i + 1)) (xs (i + 2)) = 0 := by rw [dr_eq]; exact hdr
    refine lv_aload_n hx hb d_L_law_150 rfl (lv_at hl 1 rfl) ?_
    refine lv_aload_n hx hb d_L_law_151 rfl (lv_at hl 0 rfl) ?_
    refine lv_iload_n hx hb d_L_law_152 rfl (lv_at hl 3 rfl) ?_
    refine lv_iconst (v := 1) hx hb d_L_law_153 (by decide) ?_
    refine lv_iadd hx hb d_L_law_154 ?_
    rw [show nI i + 1 = nI (i + 1) from nI_add i 1]
    refine va_sld hx hb hX hbl hbA hS (i := nI (i + 1)) (vp_in_nI (show (i + 1) < L by omega) (by omega)) d_L_law_155 ?_
    rw [nI_clamp (show (i + 1) < 2 ^ 31 by omega)]
    refine lv_aload_n hx hb d_L_law_156 rfl (lv_at hl 0 rfl) ?_
    refine lv_iload_n hx hb d_L_law_157 rfl (lv_at hl 3 rfl) ?_
    refine lv_iconst (v := 2) hx hb d_L_law_158 (by decide) ?_
    refine lv_iadd hx hb d_L_law_159 ?_
    rw [show nI i + 2 = nI (i + 2) from nI_add i 2]
    refine va_sld hx hb hX hbl hbA hS (i := nI (i + 2)) (vp_in_nI (show (i + 2) < L by omega) (by omega)) d_L_law_160 ?_
    rw [nI_clamp (show (i + 2) < 2 ^ 31 by omega)]
    refine pr_i (ru_V (b := x) (As := [.int (xs (i + 1)), .int (xs (i + 2))]) (rest := []) ⟨hx, hb, hml, hown, ht⟩ hKN (c_P_draw_no l G _ x d1 d2 v1 v2 v3 o1 t1 sd k n fb f g h q ns (nI B) (xs (i + 1)) (xs (i + 2)) (hP.sub [0, 1, 2, 3, 4, 5] rfl) hn hq hdr) kc_L_28 ⟨rfl, rfl⟩ ⟨Nat.le_of_ble_eq_true rfl, Nat.le_of_ble_eq_true rfl⟩ (va_recv hK hP (ci := 0) (q0 := 0) rfl rfl) rfl hl.1 rfl (Nat.le_of_ble_eq_true rfl) d_L_law_161 ⟨Nat.le_of_ble_eq_true rfl, Nat.le_of_ble_eq_true rfl⟩) ?_
    refine lv_aload_n hx hb d_L_law_164 rfl (lv_at hl 2 rfl) ?_
    refine lv_aload_n hx hb d_L_law_165 rfl (lv_at hl 0 rfl) ?_
    refine lv_iload_n hx hb d_L_law_166 rfl (lv_at hl 3 rfl) ?_
    refine lv_iconst (v := 1) hx hb d_L_law_167 (by decide) ?_
    refine lv_iadd hx hb d_L_law_168 ?_
    rw [show nI i + 1 = nI (i + 1) from nI_add i 1]
    refine va_sld hx hb hX hbl hbA hS (i := nI (i + 1)) (vp_in_nI (show (i + 1) < L by omega) (by omega)) d_L_law_169 ?_
    rw [nI_clamp (show (i + 1) < 2 ^ 31 by omega)]
    refine lv_aload_n hx hb d_L_law_170 rfl (lv_at hl 0 rfl) ?_
    refine lv_iload_n hx hb d_L_law_171 rfl (lv_at hl 3 rfl) ?_
    refine lv_iconst (v := 2) hx hb d_L_law_172 (by decide) ?_
    refine lv_iadd hx hb d_L_law_173 ?_
    rw [show nI i + 2 = nI (i + 2) from nI_add i 2]
    refine va_sld hx hb hX hbl hbA hS (i := nI (i + 2)) (vp_in_nI (show (i + 2) < L by omega) (by omega)) d_L_law_174 ?_
    rw [nI_clamp (show (i + 2) < 2 ^ 31 by omega)]
    refine mu_i (wr := [(x, .inr (0, [.ref d1, .ref v1, .ref o1, .ref t1, .long ns, .int (nI B)])), (d1, .inr (1, [.ref d2, .long sd, .int k, .int (nI n), .int fb])), (d2, .inl (G.2.1, 16, .inr (.inl f))), (v1, .inr (2, [.ref v2, .ref v3, .int (nI q)])), (v2, .inl (G.2.2.1, 100, .inl g)), (v3, .inl (G.2.2.2, 100, .inl h)), (o1, .inr (1, [.ref o2, .long sO, .int kO, .int (nI nO), .int bO])), (o2, .inl (G.2.1, 16, .inr (.inl fO))), (t1, .inr (1, [.ref t2, .long sT, .int kT, .int (nI nT), .int bT])), (t2, .inl (G.2.1, 16, .inr (.inl fT)))]) (wn := [(x, .inr (0, [.ref d1, .ref v1, .ref o1, .ref t1, .long ns, .int (nI B)])), (d1, .inr (1, [.ref d2, .long sd, .int k, .int (nI n), .int fb])), (d2, .inl (G.2.1, 16, .inr (.inl f))), (v1, .inr (2, [.ref v2, .ref v3, .int (nI q)])), (v2, .inl (G.2.2.1, 100, .inl g)), (v3, .inl (G.2.2.2, 100, .inl h)), (o1, .inr (1, [.ref o2, .long sO, .int kO, .int (nI nO), .int bO])), (o2, .inl (G.2.1, 16, .inr (.inl fO))), (t1, .inr (1, [.ref t2, .long sT, .int kT, .int (nI nT), .int bT])), (t2, .inl (G.2.1, 16, .inr (.inl fT))), (mm, .inr (3, [.int 0, .long ns, .long sdM, .int (nI n), .int kM, .int (nI B), .int (nI q), .ref w1, .ref w2, .ref w3])), (w1, .inl (G.2.2.1, 100, .inl g)), (w2, .inl (G.2.2.2, 100, .inl h)), (w3, .inl (G.2.2.1, 10, .inl ink0))]) (ru_V (b := mm) (As := [.int (xs (i + 1)), .int (xs (i + 2))]) (rest := [.int (-12)]) ⟨hx, hb, hml, hown, ht⟩ hKN (c_M_draw_no l G _ mm w1 w2 w3 ns sdM n kM (nI B) q g h ink0 (xs (i + 1)) (xs (i + 2)) (hP.sub [10, 11, 12, 13] rfl) ((hD.sub (ws' := [(mm, .inr (3, [.int 0, .long ns, .long sdM, .int (nI n), .int kM, .int (nI B), .int (nI q), .ref w1, .ref w2, .ref w3])), (w1, .inl (G.2.2.1, 100, .inl g)), (w2, .inl (G.2.2.2, 100, .inl h)), (w3, .inl (G.2.2.1, 10, .inl ink0))]) [10, 11, 12, 13] (by decide) rfl).weaken (fun _ _ _ _ => trivial)) hn hq hdrM) kc_L_32 ⟨rfl, rfl⟩ ⟨Nat.le_of_ble_eq_true rfl, Nat.le_of_ble_eq_true rfl⟩ (va_recv hK hP (ci := 3) (q0 := 10) rfl rfl) rfl hl.1 rfl (Nat.le_of_ble_eq_true rfl) d_L_law_175 ⟨Nat.le_of_ble_eq_true rfl, Nat.le_of_ble_eq_true rfl⟩) hP hD hS hA [10, 11, 12, 13] [0, 1, 2, 3, 4, 5, 6, 7, 8, 9] [0, 1, 2, 3, 4, 5, 6, 7, 8, 9, 10, 11, 12, 13] rfl rfl ⟨by decide, by decide, by decide⟩ (by decide) rfl rfl (fun H locs hP hD hS => ?_)
    refine lv_icmp_eq (tgt := 453) hx hb d_L_law_178 (by decide) (fun _ => ?_) (fun c1 => absurd (by decide) c1)
    exact next H locs ls ⟨d1, d2, v1, v2, v3, o1, t1, sd, k, n, fb, f, g, h, q, ns, B, o2, sO, kO, nO, bO, fO, t2, sT, kT, nT, bT, fT, w1, w2, w3, sdM, kM, hP, hD, hR, hnO, hnT⟩ hS (lv_sub hl [0, 1, 2, 3] rfl)
  · obtain ⟨z, hz16, ez, -, -⟩ := dr_get hdr
    have hdrM : ¬ mdr (xs (i + 1)) (xs (i + 2)) = 0 := by rw [dr_eq]; exact hdr
    rw [ez] at hdr hdrM
    refine lv_aload_n hx hb d_L_law_150 rfl (lv_at hl 1 rfl) ?_
    refine lv_aload_n hx hb d_L_law_151 rfl (lv_at hl 0 rfl) ?_
    refine lv_iload_n hx hb d_L_law_152 rfl (lv_at hl 3 rfl) ?_
    refine lv_iconst (v := 1) hx hb d_L_law_153 (by decide) ?_
    refine lv_iadd hx hb d_L_law_154 ?_
    rw [show nI i + 1 = nI (i + 1) from nI_add i 1]
    refine va_sld hx hb hX hbl hbA hS (i := nI (i + 1)) (vp_in_nI (show (i + 1) < L by omega) (by omega)) d_L_law_155 ?_
    rw [nI_clamp (show (i + 1) < 2 ^ 31 by omega)]
    refine lv_aload_n hx hb d_L_law_156 rfl (lv_at hl 0 rfl) ?_
    refine lv_iload_n hx hb d_L_law_157 rfl (lv_at hl 3 rfl) ?_
    refine lv_iconst (v := 2) hx hb d_L_law_158 (by decide) ?_
    refine lv_iadd hx hb d_L_law_159 ?_
    rw [show nI i + 2 = nI (i + 2) from nI_add i 2]
    refine va_sld hx hb hX hbl hbA hS (i := nI (i + 2)) (vp_in_nI (show (i + 2) < L by omega) (by omega)) d_L_law_160 ?_
    rw [nI_clamp (show (i + 2) < 2 ^ 31 by omega)]
    rw [ez]
    refine mu_i (wr := [(o1, .inr (1, [.ref o2, .long sO, .int kO, .int (nI nO), .int bO])), (o2, .inl (G.2.1, 16, .inr (.inl fO))), (t1, .inr (1, [.ref t2, .long sT, .int kT, .int (nI nT), .int bT])), (t2, .inl (G.2.1, 16, .inr (.inl fT))), (mm, .inr (3, [.int 0, .long ns, .long sdM, .int (nI n), .int kM, .int (nI B), .int (nI q), .ref w1, .ref w2, .ref w3])), (w1, .inl (G.2.2.1, 100, .inl g)), (w2, .inl (G.2.2.2, 100, .inl h)), (w3, .inl (G.2.2.1, 10, .inl ink0))]) (wn := [(x, .inr (0, [.ref d1, .ref v1, .ref o1, .ref t1, .long ns, .int (fn_D_allBits (z + 1))])), (d1, .inr (1, [.ref d2, .long ns, .int (xs (i + 1)), .int (nI (z + 1)), .int (fbN (xs (i + 1)) (z + 1) (fl ns (xs (i + 1)) f (z + 1)))])), (d2, .inl (G.2.1, 16, .inr (.inl (fl ns (xs (i + 1)) f (z + 1))))), (v1, .inr (2, [.ref v2, .ref v3, .int (nI 0)])), (v2, .inl (G.2.2.1, 100, .inl g)), (v3, .inl (G.2.2.2, 100, .inl h)), (o1, .inr (1, [.ref o2, .long sO, .int kO, .int (nI nO), .int bO])), (o2, .inl (G.2.1, 16, .inr (.inl fO))), (t1, .inr (1, [.ref t2, .long sT, .int kT, .int (nI nT), .int bT])), (t2, .inl (G.2.1, 16, .inr (.inl fT))), (mm, .inr (3, [.int 0, .long ns, .long sdM, .int (nI n), .int kM, .int (nI B), .int (nI q), .ref w1, .ref w2, .ref w3])), (w1, .inl (G.2.2.1, 100, .inl g)), (w2, .inl (G.2.2.2, 100, .inl h)), (w3, .inl (G.2.2.1, 10, .inl ink0))]) (ru_V (b := x) (As := [.int (xs (i + 1)), .int (nI z)]) (rest := []) ⟨hx, hb, hml, hown, ht⟩ hKN (c_P_draw l G _ x d1 d2 v1 v2 v3 o1 t1 sd k n fb f g h q ns (nI B) (xs (i + 1)) z (hP.sub [0, 1, 2, 3, 4, 5] rfl) ((hD.sub (ws' := [(x, .inr (0, [.ref d1, .ref v1, .ref o1, .ref t1, .long ns, .int (nI B)])), (d1, .inr (1, [.ref d2, .long sd, .int k, .int (nI n), .int fb])), (d2, .inl (G.2.1, 16, .inr (.inl f))), (v1, .inr (2, [.ref v2, .ref v3, .int (nI q)])), (v2, .inl (G.2.2.1, 100, .inl g)), (v3, .inl (G.2.2.2, 100, .inl h))]) [0, 1, 2, 3, 4, 5] (by decide) rfl).weaken (fun _ _ _ _ => trivial)) hn hq hdr hz16) kc_L_28 ⟨rfl, rfl⟩ ⟨Nat.le_of_ble_eq_true rfl, Nat.le_of_ble_eq_true rfl⟩ (va_recv hK hP (ci := 0) (q0 := 0) rfl rfl) rfl hl.1 rfl (Nat.le_of_ble_eq_true rfl) d_L_law_161 ⟨Nat.le_of_ble_eq_true rfl, Nat.le_of_ble_eq_true rfl⟩) hP hD hS hA [0, 1, 2, 3, 4, 5] [6, 7, 8, 9, 10, 11, 12, 13] [8, 9, 10, 11, 12, 13, 0, 1, 2, 3, 4, 5, 6, 7] rfl rfl ⟨by decide, by decide, by decide⟩ (by decide) rfl rfl (fun H locs hP hD hS => ?_)
    refine lv_aload_n hx hb d_L_law_164 rfl (lv_at hl 2 rfl) ?_
    refine lv_aload_n hx hb d_L_law_165 rfl (lv_at hl 0 rfl) ?_
    refine lv_iload_n hx hb d_L_law_166 rfl (lv_at hl 3 rfl) ?_
    refine lv_iconst (v := 1) hx hb d_L_law_167 (by decide) ?_
    refine lv_iadd hx hb d_L_law_168 ?_
    rw [show nI i + 1 = nI (i + 1) from nI_add i 1]
    refine va_sld hx hb hX hbl hbA hS (i := nI (i + 1)) (vp_in_nI (show (i + 1) < L by omega) (by omega)) d_L_law_169 ?_
    rw [nI_clamp (show (i + 1) < 2 ^ 31 by omega)]
    refine lv_aload_n hx hb d_L_law_170 rfl (lv_at hl 0 rfl) ?_
    refine lv_iload_n hx hb d_L_law_171 rfl (lv_at hl 3 rfl) ?_
    refine lv_iconst (v := 2) hx hb d_L_law_172 (by decide) ?_
    refine lv_iadd hx hb d_L_law_173 ?_
    rw [show nI i + 2 = nI (i + 2) from nI_add i 2]
    refine va_sld hx hb hX hbl hbA hS (i := nI (i + 2)) (vp_in_nI (show (i + 2) < L by omega) (by omega)) d_L_law_174 ?_
    rw [nI_clamp (show (i + 2) < 2 ^ 31 by omega)]
    rw [ez]
    refine mu_i (wr := [(x, .inr (0, [.ref d1, .ref v1, .ref o1, .ref t1, .long ns, .int (fn_D_allBits (z + 1))])), (d1, .inr (1, [.ref d2, .long ns, .int (xs (i + 1)), .int (nI (z + 1)), .int (fbN (xs (i + 1)) (z + 1) (fl ns (xs (i + 1)) f (z + 1)))])), (d2, .inl (G.2.1, 16, .inr (.inl (fl ns (xs (i + 1)) f (z + 1))))), (v1, .inr (2, [.ref v2, .ref v3, .int (nI 0)])), (v2, .inl (G.2.2.1, 100, .inl g)), (v3, .inl (G.2.2.2, 100, .inl h)), (o1, .inr (1, [.ref o2, .long sO, .int kO, .int (nI nO), .int bO])), (o2, .inl (G.2.1, 16, .inr (.inl fO))), (t1, .inr (1, [.ref t2, .long sT, .int kT, .int (nI nT), .int bT])), (t2, .inl (G.2.1, 16, .inr (.inl fT)))]) (wn := [(x, .inr (0, [.ref d1, .ref v1, .ref o1, .ref t1, .long ns, .int (fn_D_allBits (z + 1))])), (d1, .inr (1, [.ref d2, .long ns, .int (xs (i + 1)), .int (nI (z + 1)), .int (fbN (xs (i + 1)) (z + 1) (fl ns (xs (i + 1)) f (z + 1)))])), (d2, .inl (G.2.1, 16, .inr (.inl (fl ns (xs (i + 1)) f (z + 1))))), (v1, .inr (2, [.ref v2, .ref v3, .int (nI 0)])), (v2, .inl (G.2.2.1, 100, .inl g)), (v3, .inl (G.2.2.2, 100, .inl h)), (o1, .inr (1, [.ref o2, .long sO, .int kO, .int (nI nO), .int bO])), (o2, .inl (G.2.1, 16, .inr (.inl fO))), (t1, .inr (1, [.ref t2, .long sT, .int kT, .int (nI nT), .int bT])), (t2, .inl (G.2.1, 16, .inr (.inl fT))), (mm, .inr (3, [.int 0, .long ns, .long ns, .int (nI (z + 1)), .int (xs (i + 1)), .int (((1 : Int32) <<< (nI (z + 1) &&& 31)) - 1), .int (nI 0), .ref w1, .ref w2, .ref w3])), (w1, .inl (G.2.2.1, 100, .inl g)), (w2, .inl (G.2.2.2, 100, .inl h)), (w3, .inl (G.2.2.1, 10, .inl ink0))]) (ru_V (b := mm) (As := [.int (xs (i + 1)), .int (nI z)]) (rest := [.int (nI (z + 1))]) ⟨hx, hb, hml, hown, ht⟩ hKN (c_M_draw l G _ mm w1 w2 w3 ns sdM n kM (nI B) q g h ink0 (xs (i + 1)) z (hP.sub [10, 11, 12, 13] rfl) ((hD.sub (ws' := [(mm, .inr (3, [.int 0, .long ns, .long sdM, .int (nI n), .int kM, .int (nI B), .int (nI q), .ref w1, .ref w2, .ref w3])), (w1, .inl (G.2.2.1, 100, .inl g)), (w2, .inl (G.2.2.2, 100, .inl h)), (w3, .inl (G.2.2.1, 10, .inl ink0))]) [10, 11, 12, 13] (by decide) rfl).weaken (fun _ _ _ _ => trivial)) hn hq hdrM) kc_L_32 ⟨rfl, rfl⟩ ⟨Nat.le_of_ble_eq_true rfl, Nat.le_of_ble_eq_true rfl⟩ (va_recv hK hP (ci := 3) (q0 := 10) rfl rfl) rfl hl.1 rfl (Nat.le_of_ble_eq_true rfl) d_L_law_175 ⟨Nat.le_of_ble_eq_true rfl, Nat.le_of_ble_eq_true rfl⟩) hP hD hS hA [10, 11, 12, 13] [0, 1, 2, 3, 4, 5, 6, 7, 8, 9] [0, 1, 2, 3, 4, 5, 6, 7, 8, 9, 10, 11, 12, 13] rfl rfl ⟨by decide, by decide, by decide⟩ (by decide) rfl rfl (fun H locs hP hD hS => ?_)
    rw [show fn_D_allBits (z + 1) = nI (2 ^ (z + 1) - 1) from all_nI _ (by omega), show ((1 : Int32) <<< (nI (z + 1) &&& 31)) - 1 = nI (2 ^ (z + 1) - 1) from all_nI (z + 1) (by omega)] at hP hD
    refine lv_icmp_eq (tgt := 453) hx hb d_L_law_178 (by decide) (fun c2 => ?_) (fun c2 => ?_)
    · exact next H locs ls ⟨d1, d2, v1, v2, v3, o1, t1, ns, (xs (i + 1)), (z + 1), (fbN (xs (i + 1)) (z + 1) (fl ns (xs (i + 1)) f (z + 1))), (fl ns (xs (i + 1)) f (z + 1)), g, h, 0, ns, (2 ^ (z + 1) - 1), o2, sO, kO, nO, bO, fO, t2, sT, kT, nT, bT, fT, w1, w2, w3, ns, (xs (i + 1)), hP, hD, (rel_draw hz16), hnO, hnT⟩ hS (lv_sub hl [0, 1, 2, 3] rfl)
    · exact absurd rfl c2
set_option maxHeartbeats 4000000 in
set_option maxRecDepth 100000 in
theorem law_case2 {p : Program} {l : Launch} {e : Env} {s : State} {m : MethodId} {below : List Frame} {meth : Method} {c : Code} {b L : Nat} {xs : Nat → Int32} {G : GT} {A : Nat → Prop} {tt : Nat} (hL : L ≤ 2561) (C : LC p s m meth c b L xs G A tt) {i x mm : Nat} (hi : i + 5 ≤ L) {H : Heap} {locs : List Loc} {ls : Array Slot} (hW : Wd G A x mm H) (hS : va_S A s.heap H locs) (hl : lv_has ls 4 [(0, .ref b), (1, .ref x), (2, .ref mm), (3, .int (nI i))])
    (next : ∀ (H : Heap) (locs : List Loc) (ls : Array Slot), Wd G A x mm H → va_S A s.heap H locs → lv_has ls 4 [(0, .ref b), (1, .ref x), (2, .ref mm), (3, .int (nI i))] → W p l e room_1 s m #[Value.ref b] below meth c H locs 14 492 (lw_Z below #[Value.ref b] s) (F0 m 453 ls [])) : W p l e room_1 s m #[Value.ref b] below meth c H locs 14 492 (lw_Z below #[Value.ref b] s) (F0 m 183 ls []) := by
  obtain ⟨hx, hb, hr, hml, hown, ht, hKN, hX, hbl, hlocks, hA, hbA, hZ, hT⟩ := C
  have hK := hKN.1
  obtain ⟨d1, d2, v1, v2, v3, o1, t1, sd, k, n, fb, f, g, h, q, ns, B, o2, sO, kO, nO, bO, fO, t2, sT, kT, nT, bT, fT, w1, w2, w3, sdM, kM, hP, hD, hR, hnO, hnT⟩ := hW
  obtain ⟨hn, hq, hd, hz, hB, hk⟩ := id hR
  refine lv_aload_n hx hb d_L_law_183 rfl (lv_at hl 1 rfl) ?_
  refine lv_aload_n hx hb d_L_law_184 rfl (lv_at hl 0 rfl) ?_
  refine lv_iload_n hx hb d_L_law_185 rfl (lv_at hl 3 rfl) ?_
  refine lv_iconst (v := 1) hx hb d_L_law_186 (by decide) ?_
  refine lv_iadd hx hb d_L_law_187 ?_
  rw [show nI i + 1 = nI (i + 1) from nI_add i 1]
  refine va_sld hx hb hX hbl hbA hS (i := nI (i + 1)) (vp_in_nI (show (i + 1) < L by omega) (by omega)) d_L_law_188 ?_
  rw [nI_clamp (show (i + 1) < 2 ^ 31 by omega)]
  refine lv_aload_n hx hb d_L_law_189 rfl (lv_at hl 0 rfl) ?_
  refine lv_iload_n hx hb d_L_law_190 rfl (lv_at hl 3 rfl) ?_
  refine lv_iconst (v := 2) hx hb d_L_law_191 (by decide) ?_
  refine lv_iadd hx hb d_L_law_192 ?_
  rw [show nI i + 2 = nI (i + 2) from nI_add i 2]
  refine va_sld hx hb hX hbl hbA hS (i := nI (i + 2)) (vp_in_nI (show (i + 2) < L by omega) (by omega)) d_L_law_193 ?_
  rw [nI_clamp (show (i + 2) < 2 ^ 31 by omega)]
  refine pr_i (ru_V (b := x) (As := [.int (xs (i + 1)), .int (xs (i + 2))]) (rest := []) ⟨hx, hb, hml, hown, ht⟩ hKN (c_P_part l G _ x d1 d2 v1 v2 v3 o1 t1 sd k n fb f g h q ns (nI B) (xs (i + 1)) (xs (i + 2)) (hP.sub [0, 1, 2, 3, 4, 5] rfl) hn hq) kc_L_33 ⟨rfl, rfl⟩ ⟨Nat.le_of_ble_eq_true rfl, Nat.le_of_ble_eq_true rfl⟩ (va_recv hK hP (ci := 0) (q0 := 0) rfl rfl) rfl hl.1 rfl (Nat.le_of_ble_eq_true rfl) d_L_law_194 ⟨Nat.le_of_ble_eq_true rfl, Nat.le_of_ble_eq_true rfl⟩) ?_
  refine lv_aload_n hx hb d_L_law_197 rfl (lv_at hl 2 rfl) ?_
  refine lv_aload_n hx hb d_L_law_198 rfl (lv_at hl 0 rfl) ?_
  refine lv_iload_n hx hb d_L_law_199 rfl (lv_at hl 3 rfl) ?_
  refine lv_iconst (v := 1) hx hb d_L_law_200 (by decide) ?_
  refine lv_iadd hx hb d_L_law_201 ?_
  rw [show nI i + 1 = nI (i + 1) from nI_add i 1]
  refine va_sld hx hb hX hbl hbA hS (i := nI (i + 1)) (vp_in_nI (show (i + 1) < L by omega) (by omega)) d_L_law_202 ?_
  rw [nI_clamp (show (i + 1) < 2 ^ 31 by omega)]
  refine lv_aload_n hx hb d_L_law_203 rfl (lv_at hl 0 rfl) ?_
  refine lv_iload_n hx hb d_L_law_204 rfl (lv_at hl 3 rfl) ?_
  refine lv_iconst (v := 2) hx hb d_L_law_205 (by decide) ?_
  refine lv_iadd hx hb d_L_law_206 ?_
  rw [show nI i + 2 = nI (i + 2) from nI_add i 2]
  refine va_sld hx hb hX hbl hbA hS (i := nI (i + 2)) (vp_in_nI (show (i + 2) < L by omega) (by omega)) d_L_law_207 ?_
  rw [nI_clamp (show (i + 2) < 2 ^ 31 by omega)]
  refine mu_i (wr := [(x, .inr (0, [.ref d1, .ref v1, .ref o1, .ref t1, .long ns, .int (nI B)])), (d1, .inr (1, [.ref d2, .long sd, .int k, .int (nI n), .int fb])), (d2, .inl (G.2.1, 16, .inr (.inl f))), (v1, .inr (2, [.ref v2, .ref v3, .int (nI q)])), (v2, .inl (G.2.2.1, 100, .inl g)), (v3, .inl (G.2.2.2, 100, .inl h)), (o1, .inr (1, [.ref o2, .long sO, .int kO, .int (nI nO), .int bO])), (o2, .inl (G.2.1, 16, .inr (.inl fO))), (t1, .inr (1, [.ref t2, .long sT, .int kT, .int (nI nT), .int bT])), (t2, .inl (G.2.1, 16, .inr (.inl fT)))]) (wn := [(x, .inr (0, [.ref d1, .ref v1, .ref o1, .ref t1, .long ns, .int (nI B)])), (d1, .inr (1, [.ref d2, .long sd, .int k, .int (nI n), .int fb])), (d2, .inl (G.2.1, 16, .inr (.inl f))), (v1, .inr (2, [.ref v2, .ref v3, .int (nI q)])), (v2, .inl (G.2.2.1, 100, .inl g)), (v3, .inl (G.2.2.2, 100, .inl h)), (o1, .inr (1, [.ref o2, .long sO, .int kO, .int (nI nO), .int bO])), (o2, .inl (G.2.1, 16, .inr (.inl fO))), (t1, .inr (1, [.ref t2, .long sT, .int kT, .int (nI nT), .int bT])), (t2, .inl (G.2.1, 16, .inr (.inl fT))), (mm, .inr (3, [.int 0, .long ns, .long sdM, .int (nI n), .int kM, .int (nI B), .int (nI q), .ref w1, .ref w2, .ref w3])), (w1, .inl (G.2.2.1, 100, .inl g)), (w2, .inl (G.2.2.2, 100, .inl h)), (w3, .inl (G.2.2.1, 10, .inl ink0))]) (ru_V (b := mm) (As := [.int (xs (i + 1)), .int (xs (i + 2))]) (rest := [.int (fn_P_part n fb f (xs (i + 1)) (xs (i + 2)))]) ⟨hx, hb, hml, hown, ht⟩ hKN (c_M_part l G _ mm w1 w2 w3 ns sdM n kM (nI B) q g h ink0 (xs (i + 1)) (xs (i + 2)) (hP.sub [10, 11, 12, 13] rfl) ((hD.sub (ws' := [(mm, .inr (3, [.int 0, .long ns, .long sdM, .int (nI n), .int kM, .int (nI B), .int (nI q), .ref w1, .ref w2, .ref w3])), (w1, .inl (G.2.2.1, 100, .inl g)), (w2, .inl (G.2.2.2, 100, .inl h)), (w3, .inl (G.2.2.1, 10, .inl ink0))]) [10, 11, 12, 13] (by decide) rfl).weaken (fun _ _ _ _ => trivial)) hn hq) kc_L_36 ⟨rfl, rfl⟩ ⟨Nat.le_of_ble_eq_true rfl, Nat.le_of_ble_eq_true rfl⟩ (va_recv hK hP (ci := 3) (q0 := 10) rfl rfl) rfl hl.1 rfl (Nat.le_of_ble_eq_true rfl) d_L_law_208 ⟨Nat.le_of_ble_eq_true rfl, Nat.le_of_ble_eq_true rfl⟩) hP hD hS hA [10, 11, 12, 13] [0, 1, 2, 3, 4, 5, 6, 7, 8, 9] [0, 1, 2, 3, 4, 5, 6, 7, 8, 9, 10, 11, 12, 13] rfl rfl ⟨by decide, by decide, by decide⟩ (by decide) rfl rfl (fun H locs hP hD hS => ?_)
  refine lv_icmp_eq (tgt := 453) hx hb d_L_law_211 (by decide) (fun c1 => ?_) (fun c1 => ?_)
  · exact next H locs ls ⟨d1, d2, v1, v2, v3, o1, t1, sd, k, n, fb, f, g, h, q, ns, B, o2, sO, kO, nO, bO, fO, t2, sT, kT, nT, bT, fT, w1, w2, w3, sdM, kM, hP, hD, hR, hnO, hnT⟩ hS (lv_sub hl [0, 1, 2, 3] rfl)
  · exact absurd (rel_part hR (xs (i + 1)) (xs (i + 2))) c1
set_option maxHeartbeats 4000000 in
set_option maxRecDepth 100000 in
theorem law_case3 {p : Program} {l : Launch} {e : Env} {s : State} {m : MethodId} {below : List Frame} {meth : Method} {c : Code} {b L : Nat} {xs : Nat → Int32} {G : GT} {A : Nat → Prop} {tt : Nat} (hL : L ≤ 2561) (C : LC p s m meth c b L xs G A tt) {i x mm : Nat} (hi : i + 5 ≤ L) {H : Heap} {locs : List Loc} {ls : Array Slot} (hW : Wd G A x mm H) (hS : va_S A s.heap H locs) (hl : lv_has ls 4 [(0, .ref b), (1, .ref x), (2, .ref mm), (3, .int (nI i))])
    (next : ∀ (H : Heap) (locs : List Loc) (ls : Array Slot), Wd G A x mm H → va_S A s.heap H locs → lv_has ls 4 [(0, .ref b), (1, .ref x), (2, .ref mm), (3, .int (nI i))] → W p l e room_1 s m #[Value.ref b] below meth c H locs 14 492 (lw_Z below #[Value.ref b] s) (F0 m 453 ls [])) : W p l e room_1 s m #[Value.ref b] below meth c H locs 14 492 (lw_Z below #[Value.ref b] s) (F0 m 216 ls []) := by
  obtain ⟨hx, hb, hr, hml, hown, ht, hKN, hX, hbl, hlocks, hA, hbA, hZ, hT⟩ := C
  have hK := hKN.1
  obtain ⟨d1, d2, v1, v2, v3, o1, t1, sd, k, n, fb, f, g, h, q, ns, B, o2, sO, kO, nO, bO, fO, t2, sT, kT, nT, bT, fT, w1, w2, w3, sdM, kM, hP, hD, hR, hnO, hnT⟩ := hW
  obtain ⟨hn, hq, hd, hz, hB, hk⟩ := id hR
  have hST : ST tt s H := ⟨(hZ.kept hS.2.1).narrow (fun _ z => z.elim), (hT.kept hS.2.1).narrow (fun _ z => z.elim)⟩
  refine lv_aload_n hx hb d_L_law_216 rfl (lv_at hl 1 rfl) ?_
  refine lv_aload_n hx hb d_L_law_217 rfl (lv_at hl 0 rfl) ?_
  refine lv_iload_n hx hb d_L_law_218 rfl (lv_at hl 3 rfl) ?_
  refine lv_iconst (v := 1) hx hb d_L_law_219 (by decide) ?_
  refine lv_iadd hx hb d_L_law_220 ?_
  rw [show nI i + 1 = nI (i + 1) from nI_add i 1]
  refine va_sld hx hb hX hbl hbA hS (i := nI (i + 1)) (vp_in_nI (show (i + 1) < L by omega) (by omega)) d_L_law_221 ?_
  rw [nI_clamp (show (i + 1) < 2 ^ 31 by omega)]
  refine lv_aload_n hx hb d_L_law_222 rfl (lv_at hl 0 rfl) ?_
  refine lv_iload_n hx hb d_L_law_223 rfl (lv_at hl 3 rfl) ?_
  refine lv_iconst (v := 2) hx hb d_L_law_224 (by decide) ?_
  refine lv_iadd hx hb d_L_law_225 ?_
  rw [show nI i + 2 = nI (i + 2) from nI_add i 2]
  refine va_sld hx hb hX hbl hbA hS (i := nI (i + 2)) (vp_in_nI (show (i + 2) < L by omega) (by omega)) d_L_law_226 ?_
  rw [nI_clamp (show (i + 2) < 2 ^ 31 by omega)]
  refine lv_aload_n hx hb d_L_law_227 rfl (lv_at hl 0 rfl) ?_
  refine lv_iload_n hx hb d_L_law_228 rfl (lv_at hl 3 rfl) ?_
  refine lv_iconst (v := 3) hx hb d_L_law_229 (by decide) ?_
  refine lv_iadd hx hb d_L_law_230 ?_
  rw [show nI i + 3 = nI (i + 3) from nI_add i 3]
  refine va_sld hx hb hX hbl hbA hS (i := nI (i + 3)) (vp_in_nI (show (i + 3) < L by omega) (by omega)) d_L_law_231 ?_
  rw [nI_clamp (show (i + 3) < 2 ^ 31 by omega)]
  refine pr_i (ru_VS (b := x) (As := [.int (xs (i + 1)), .int (xs (i + 2)), .int (xs (i + 3))]) (rest := []) ⟨hx, hb, hml, hown, ht⟩ hKN hST (c_P_point l G _ tt x d1 d2 v1 v2 v3 o1 t1 sd k n fb f g h q ns (nI B) (xs (i + 1)) (xs (i + 2)) (xs (i + 3)) (hP.sub [0, 1, 2, 3, 4, 5] rfl) hn hq) kc_L_37 ⟨rfl, rfl⟩ ⟨Nat.le_of_ble_eq_true rfl, Nat.le_of_ble_eq_true rfl⟩ (va_recv hK hP (ci := 0) (q0 := 0) rfl rfl) rfl hl.1 rfl (Nat.le_of_ble_eq_true rfl) d_L_law_232 ⟨Nat.le_of_ble_eq_true rfl, Nat.le_of_ble_eq_true rfl⟩) ?_
  refine lv_aload_n hx hb d_L_law_235 rfl (lv_at hl 2 rfl) ?_
  refine lv_aload_n hx hb d_L_law_236 rfl (lv_at hl 0 rfl) ?_
  refine lv_iload_n hx hb d_L_law_237 rfl (lv_at hl 3 rfl) ?_
  refine lv_iconst (v := 1) hx hb d_L_law_238 (by decide) ?_
  refine lv_iadd hx hb d_L_law_239 ?_
  rw [show nI i + 1 = nI (i + 1) from nI_add i 1]
  refine va_sld hx hb hX hbl hbA hS (i := nI (i + 1)) (vp_in_nI (show (i + 1) < L by omega) (by omega)) d_L_law_240 ?_
  rw [nI_clamp (show (i + 1) < 2 ^ 31 by omega)]
  refine lv_aload_n hx hb d_L_law_241 rfl (lv_at hl 0 rfl) ?_
  refine lv_iload_n hx hb d_L_law_242 rfl (lv_at hl 3 rfl) ?_
  refine lv_iconst (v := 2) hx hb d_L_law_243 (by decide) ?_
  refine lv_iadd hx hb d_L_law_244 ?_
  rw [show nI i + 2 = nI (i + 2) from nI_add i 2]
  refine va_sld hx hb hX hbl hbA hS (i := nI (i + 2)) (vp_in_nI (show (i + 2) < L by omega) (by omega)) d_L_law_245 ?_
  rw [nI_clamp (show (i + 2) < 2 ^ 31 by omega)]
  refine lv_aload_n hx hb d_L_law_246 rfl (lv_at hl 0 rfl) ?_
  refine lv_iload_n hx hb d_L_law_247 rfl (lv_at hl 3 rfl) ?_
  refine lv_iconst (v := 3) hx hb d_L_law_248 (by decide) ?_
  refine lv_iadd hx hb d_L_law_249 ?_
  rw [show nI i + 3 = nI (i + 3) from nI_add i 3]
  refine va_sld hx hb hX hbl hbA hS (i := nI (i + 3)) (vp_in_nI (show (i + 3) < L by omega) (by omega)) d_L_law_250 ?_
  rw [nI_clamp (show (i + 3) < 2 ^ 31 by omega)]
  refine mu_i (wr := [(x, .inr (0, [.ref d1, .ref v1, .ref o1, .ref t1, .long ns, .int (nI B)])), (d1, .inr (1, [.ref d2, .long sd, .int k, .int (nI n), .int fb])), (d2, .inl (G.2.1, 16, .inr (.inl f))), (v1, .inr (2, [.ref v2, .ref v3, .int (nI q)])), (v2, .inl (G.2.2.1, 100, .inl g)), (v3, .inl (G.2.2.2, 100, .inl h)), (o1, .inr (1, [.ref o2, .long sO, .int kO, .int (nI nO), .int bO])), (o2, .inl (G.2.1, 16, .inr (.inl fO))), (t1, .inr (1, [.ref t2, .long sT, .int kT, .int (nI nT), .int bT])), (t2, .inl (G.2.1, 16, .inr (.inl fT)))]) (wn := [(x, .inr (0, [.ref d1, .ref v1, .ref o1, .ref t1, .long ns, .int (nI B)])), (d1, .inr (1, [.ref d2, .long sd, .int k, .int (nI n), .int fb])), (d2, .inl (G.2.1, 16, .inr (.inl f))), (v1, .inr (2, [.ref v2, .ref v3, .int (nI q)])), (v2, .inl (G.2.2.1, 100, .inl g)), (v3, .inl (G.2.2.2, 100, .inl h)), (o1, .inr (1, [.ref o2, .long sO, .int kO, .int (nI nO), .int bO])), (o2, .inl (G.2.1, 16, .inr (.inl fO))), (t1, .inr (1, [.ref t2, .long sT, .int kT, .int (nI nT), .int bT])), (t2, .inl (G.2.1, 16, .inr (.inl fT))), (mm, .inr (3, [.int 0, .long ns, .long sdM, .int (nI n), .int kM, .int (nI B), .int (nI q), .ref w1, .ref w2, .ref w3])), (w1, .inl (G.2.2.1, 100, .inl g)), (w2, .inl (G.2.2.2, 100, .inl h)), (w3, .inl (G.2.2.1, 10, .inl ink0))]) (ru_V (b := mm) (As := [.int (xs (i + 1)), .int (xs (i + 2)), .int (xs (i + 3))]) (rest := [.int (fn_P_point sd k n f (xs (i + 1)) (xs (i + 2)) (xs (i + 3)))]) ⟨hx, hb, hml, hown, ht⟩ hKN (c_M_point l G _ mm w1 w2 w3 ns sdM n kM (nI B) q g h ink0 (xs (i + 1)) (xs (i + 2)) (xs (i + 3)) (hP.sub [10, 11, 12, 13] rfl) ((hD.sub (ws' := [(mm, .inr (3, [.int 0, .long ns, .long sdM, .int (nI n), .int kM, .int (nI B), .int (nI q), .ref w1, .ref w2, .ref w3])), (w1, .inl (G.2.2.1, 100, .inl g)), (w2, .inl (G.2.2.2, 100, .inl h)), (w3, .inl (G.2.2.1, 10, .inl ink0))]) [10, 11, 12, 13] (by decide) rfl).weaken (fun _ _ _ _ => trivial)) hn hq) kc_L_41 ⟨rfl, rfl⟩ ⟨Nat.le_of_ble_eq_true rfl, Nat.le_of_ble_eq_true rfl⟩ (va_recv hK hP (ci := 3) (q0 := 10) rfl rfl) rfl hl.1 rfl (Nat.le_of_ble_eq_true rfl) d_L_law_251 ⟨Nat.le_of_ble_eq_true rfl, Nat.le_of_ble_eq_true rfl⟩) hP hD hS hA [10, 11, 12, 13] [0, 1, 2, 3, 4, 5, 6, 7, 8, 9] [0, 1, 2, 3, 4, 5, 6, 7, 8, 9, 10, 11, 12, 13] rfl rfl ⟨by decide, by decide, by decide⟩ (by decide) rfl rfl (fun H locs hP hD hS => ?_)
  refine lv_icmp_eq (tgt := 453) hx hb d_L_law_254 (by decide) (fun c1 => ?_) (fun c1 => ?_)
  · exact next H locs ls ⟨d1, d2, v1, v2, v3, o1, t1, sd, k, n, fb, f, g, h, q, ns, B, o2, sO, kO, nO, bO, fO, t2, sT, kT, nT, bT, fT, w1, w2, w3, sdM, kM, hP, hD, hR, hnO, hnT⟩ hS (lv_sub hl [0, 1, 2, 3] rfl)
  · exact absurd (rel_point hR (xs (i + 1)) (xs (i + 2)) (xs (i + 3))) c1
set_option maxHeartbeats 4000000 in
set_option maxRecDepth 100000 in
theorem law_case4 {p : Program} {l : Launch} {e : Env} {s : State} {m : MethodId} {below : List Frame} {meth : Method} {c : Code} {b L : Nat} {xs : Nat → Int32} {G : GT} {A : Nat → Prop} {tt : Nat} (hL : L ≤ 2561) (C : LC p s m meth c b L xs G A tt) {i x mm : Nat} (hi : i + 5 ≤ L) {H : Heap} {locs : List Loc} {ls : Array Slot} (hW : Wd G A x mm H) (hS : va_S A s.heap H locs) (hl : lv_has ls 4 [(0, .ref b), (1, .ref x), (2, .ref mm), (3, .int (nI i))])
    (next : ∀ (H : Heap) (locs : List Loc) (ls : Array Slot), Wd G A x mm H → va_S A s.heap H locs → lv_has ls 4 [(0, .ref b), (1, .ref x), (2, .ref mm), (3, .int (nI i))] → W p l e room_1 s m #[Value.ref b] below meth c H locs 14 492 (lw_Z below #[Value.ref b] s) (F0 m 453 ls [])) : W p l e room_1 s m #[Value.ref b] below meth c H locs 14 492 (lw_Z below #[Value.ref b] s) (F0 m 259 ls []) := by
  obtain ⟨hx, hb, hr, hml, hown, ht, hKN, hX, hbl, hlocks, hA, hbA, hZ, hT⟩ := C
  have hK := hKN.1
  obtain ⟨d1, d2, v1, v2, v3, o1, t1, sd, k, n, fb, f, g, h, q, ns, B, o2, sO, kO, nO, bO, fO, t2, sT, kT, nT, bT, fT, w1, w2, w3, sdM, kM, hP, hD, hR, hnO, hnT⟩ := hW
  obtain ⟨hn, hq, hd, hz, hB, hk⟩ := id hR
  by_cases hvd : vdc n (xs (i + 1)) = 0
  · have hvdM : mvd n (xs (i + 1)) = 0 := by rw [vd_eq hn]; exact hvd
    rcases po_vf (xs (i + 1)) hd with ⟨hv, hpo, hno⟩ | ⟨hv, hpo, hg⟩
    · by_cases hq1 : q = 100
      · refine lv_aload_n hx hb d_L_law_259 rfl (lv_at hl 1 rfl) ?_
        refine lv_aload_n hx hb d_L_law_260 rfl (lv_at hl 0 rfl) ?_
        refine lv_iload_n hx hb d_L_law_261 rfl (lv_at hl 3 rfl) ?_
        refine lv_iconst (v := 1) hx hb d_L_law_262 (by decide) ?_
        refine lv_iadd hx hb d_L_law_263 ?_
        rw [show nI i + 1 = nI (i + 1) from nI_add i 1]
        refine va_sld hx hb hX hbl hbA hS (i := nI (i + 1)) (vp_in_nI (show (i + 1) < L by omega) (by omega)) d_L_law_264 ?_
        rw [nI_clamp (show (i + 1) < 2 ^ 31 by omega)]
        refine lv_aload_n hx hb d_L_law_265 rfl (lv_at hl 0 rfl) ?_
        refine lv_iload_n hx hb d_L_law_266 rfl (lv_at hl 3 rfl) ?_
        refine lv_iconst (v := 2) hx hb d_L_law_267 (by decide) ?_
        refine lv_iadd hx hb d_L_law_268 ?_
        rw [show nI i + 2 = nI (i + 2) from nI_add i 2]
        refine va_sld hx hb hX hbl hbA hS (i := nI (i + 2)) (vp_in_nI (show (i + 2) < L by omega) (by omega)) d_L_law_269 ?_
        rw [nI_clamp (show (i + 2) < 2 ^ 31 by omega)]
        refine lv_if_eq (tgt := 277) hx hb d_L_law_270 (by decide) (fun c1 => ?_) (fun c1 => ?_)
        · refine lv_iconst (v := 0) hx hb d_L_law_277 (by decide) ?_
          refine mu_i (wr := [(o1, .inr (1, [.ref o2, .long sO, .int kO, .int (nI nO), .int bO])), (o2, .inl (G.2.1, 16, .inr (.inl fO))), (t1, .inr (1, [.ref t2, .long sT, .int kT, .int (nI nT), .int bT])), (t2, .inl (G.2.1, 16, .inr (.inl fT))), (mm, .inr (3, [.int 0, .long ns, .long sdM, .int (nI n), .int kM, .int (nI B), .int (nI q), .ref w1, .ref w2, .ref w3])), (w1, .inl (G.2.2.1, 100, .inl g)), (w2, .inl (G.2.2.2, 100, .inl h)), (w3, .inl (G.2.2.1, 10, .inl ink0))]) (wn := [(x, .inr (0, [.ref d1, .ref v1, .ref o1, .ref t1, .long ns, .int (nI B)])), (d1, .inr (1, [.ref d2, .long sd, .int k, .int (nI n), .int fb])), (d2, .inl (G.2.1, 16, .inr (.inl f))), (v1, .inr (2, [.ref v2, .ref v3, .int (nI (tln g q (xs (i + 1))))])), (v2, .inl (G.2.2.1, 100, .inl (tlg g q (xs (i + 1))))), (v3, .inl (G.2.2.2, 100, .inl (tlh g h q (xs (i + 1)) 0))), (o1, .inr (1, [.ref o2, .long sO, .int kO, .int (nI nO), .int bO])), (o2, .inl (G.2.1, 16, .inr (.inl fO))), (t1, .inr (1, [.ref t2, .long sT, .int kT, .int (nI nT), .int bT])), (t2, .inl (G.2.1, 16, .inr (.inl fT))), (mm, .inr (3, [.int 0, .long ns, .long sdM, .int (nI n), .int kM, .int (nI B), .int (nI q), .ref w1, .ref w2, .ref w3])), (w1, .inl (G.2.2.1, 100, .inl g)), (w2, .inl (G.2.2.2, 100, .inl h)), (w3, .inl (G.2.2.1, 10, .inl ink0))]) (ru_V (b := x) (As := [.int (xs (i + 1)), .int 0]) (rest := []) ⟨hx, hb, hml, hown, ht⟩ hKN (c_P_verdict l G _ x d1 d2 v1 v2 v3 o1 t1 sd k n fb f g h q ns (nI B) (xs (i + 1)) 0 (hP.sub [0, 1, 2, 3, 4, 5] rfl) ((hD.sub (ws' := [(x, .inr (0, [.ref d1, .ref v1, .ref o1, .ref t1, .long ns, .int (nI B)])), (d1, .inr (1, [.ref d2, .long sd, .int k, .int (nI n), .int fb])), (d2, .inl (G.2.1, 16, .inr (.inl f))), (v1, .inr (2, [.ref v2, .ref v3, .int (nI q)])), (v2, .inl (G.2.2.1, 100, .inl g)), (v3, .inl (G.2.2.2, 100, .inl h))]) [0, 1, 2, 3, 4, 5] (by decide) rfl).weaken (fun _ _ _ _ => trivial)) hn hq hvd) kc_L_42 ⟨rfl, rfl⟩ ⟨Nat.le_of_ble_eq_true rfl, Nat.le_of_ble_eq_true rfl⟩ (va_recv hK hP (ci := 0) (q0 := 0) rfl rfl) rfl hl.1 rfl (Nat.le_of_ble_eq_true rfl) d_L_law_278 ⟨Nat.le_of_ble_eq_true rfl, Nat.le_of_ble_eq_true rfl⟩) hP hD hS hA [0, 1, 2, 3, 4, 5] [6, 7, 8, 9, 10, 11, 12, 13] [8, 9, 10, 11, 12, 13, 0, 1, 2, 3, 4, 5, 6, 7] rfl rfl ⟨by decide, by decide, by decide⟩ (by decide) rfl rfl (fun H locs hP hD hS => ?_)
          obtain ⟨e1, e2, e3, e4⟩ := tell_room (h := h) (y := 0) hv hq1
          rw [e2, e3, e4] at hP hD
          rw [show vdr g q (xs (i + 1)) = (-14) from by unfold vdr; rw [e1, if_pos rfl]]
          have hP : va_P G.1 classes [(x, .inr (0, [.ref d1, .ref v1, .ref o1, .ref t1, .long ns, .int (nI B)])), (d1, .inr (1, [.ref d2, .long sd, .int k, .int (nI n), .int fb])), (d2, .inl (G.2.1, 16, .inr (.inl f))), (v1, .inr (2, [.ref v2, .ref v3, .int (nI q)])), (v2, .inl (G.2.2.1, 100, .inl g)), (v3, .inl (G.2.2.2, 100, .inl h)), (o1, .inr (1, [.ref o2, .long sO, .int kO, .int (nI nO), .int bO])), (o2, .inl (G.2.1, 16, .inr (.inl fO))), (t1, .inr (1, [.ref t2, .long sT, .int kT, .int (nI nT), .int bT])), (t2, .inl (G.2.1, 16, .inr (.inl fT))), (mm, .inr (3, [.int 0, .long ns, .long sdM, .int (nI n), .int kM, .int (nI B), .int (nI q), .ref w1, .ref w2, .ref w3])), (w1, .inl (G.2.2.1, 100, .inl g)), (w2, .inl (G.2.2.2, 100, .inl h)), (w3, .inl (G.2.2.1, 10, .inl ink0))] H := hP
          have hD : va_D A [(x, .inr (0, [.ref d1, .ref v1, .ref o1, .ref t1, .long ns, .int (nI B)])), (d1, .inr (1, [.ref d2, .long sd, .int k, .int (nI n), .int fb])), (d2, .inl (G.2.1, 16, .inr (.inl f))), (v1, .inr (2, [.ref v2, .ref v3, .int (nI q)])), (v2, .inl (G.2.2.1, 100, .inl g)), (v3, .inl (G.2.2.2, 100, .inl h)), (o1, .inr (1, [.ref o2, .long sO, .int kO, .int (nI nO), .int bO])), (o2, .inl (G.2.1, 16, .inr (.inl fO))), (t1, .inr (1, [.ref t2, .long sT, .int kT, .int (nI nT), .int bT])), (t2, .inl (G.2.1, 16, .inr (.inl fT))), (mm, .inr (3, [.int 0, .long ns, .long sdM, .int (nI n), .int kM, .int (nI B), .int (nI q), .ref w1, .ref w2, .ref w3])), (w1, .inl (G.2.2.1, 100, .inl g)), (w2, .inl (G.2.2.2, 100, .inl h)), (w3, .inl (G.2.2.1, 10, .inl ink0))] := hD
          refine lv_aload_n hx hb d_L_law_281 rfl (lv_at hl 2 rfl) ?_
          refine lv_aload_n hx hb d_L_law_282 rfl (lv_at hl 0 rfl) ?_
          refine lv_iload_n hx hb d_L_law_283 rfl (lv_at hl 3 rfl) ?_
          refine lv_iconst (v := 1) hx hb d_L_law_284 (by decide) ?_
          refine lv_iadd hx hb d_L_law_285 ?_
          rw [show nI i + 1 = nI (i + 1) from nI_add i 1]
          refine va_sld hx hb hX hbl hbA hS (i := nI (i + 1)) (vp_in_nI (show (i + 1) < L by omega) (by omega)) d_L_law_286 ?_
          rw [nI_clamp (show (i + 1) < 2 ^ 31 by omega)]
          refine lv_aload_n hx hb d_L_law_287 rfl (lv_at hl 0 rfl) ?_
          refine lv_iload_n hx hb d_L_law_288 rfl (lv_at hl 3 rfl) ?_
          refine lv_iconst (v := 2) hx hb d_L_law_289 (by decide) ?_
          refine lv_iadd hx hb d_L_law_290 ?_
          rw [show nI i + 2 = nI (i + 2) from nI_add i 2]
          refine va_sld hx hb hX hbl hbA hS (i := nI (i + 2)) (vp_in_nI (show (i + 2) < L by omega) (by omega)) d_L_law_291 ?_
          rw [nI_clamp (show (i + 2) < 2 ^ 31 by omega)]
          refine lv_if_eq (tgt := 299) hx hb d_L_law_292 (by decide) (fun c2 => ?_) (fun c2 => ?_)
          · refine lv_iconst (v := 0) hx hb d_L_law_299 (by decide) ?_
            refine mu_i (wr := [(x, .inr (0, [.ref d1, .ref v1, .ref o1, .ref t1, .long ns, .int (nI B)])), (d1, .inr (1, [.ref d2, .long sd, .int k, .int (nI n), .int fb])), (d2, .inl (G.2.1, 16, .inr (.inl f))), (v1, .inr (2, [.ref v2, .ref v3, .int (nI q)])), (v2, .inl (G.2.2.1, 100, .inl g)), (v3, .inl (G.2.2.2, 100, .inl h)), (o1, .inr (1, [.ref o2, .long sO, .int kO, .int (nI nO), .int bO])), (o2, .inl (G.2.1, 16, .inr (.inl fO))), (t1, .inr (1, [.ref t2, .long sT, .int kT, .int (nI nT), .int bT])), (t2, .inl (G.2.1, 16, .inr (.inl fT)))]) (wn := [(x, .inr (0, [.ref d1, .ref v1, .ref o1, .ref t1, .long ns, .int (nI B)])), (d1, .inr (1, [.ref d2, .long sd, .int k, .int (nI n), .int fb])), (d2, .inl (G.2.1, 16, .inr (.inl f))), (v1, .inr (2, [.ref v2, .ref v3, .int (nI q)])), (v2, .inl (G.2.2.1, 100, .inl g)), (v3, .inl (G.2.2.2, 100, .inl h)), (o1, .inr (1, [.ref o2, .long sO, .int kO, .int (nI nO), .int bO])), (o2, .inl (G.2.1, 16, .inr (.inl fO))), (t1, .inr (1, [.ref t2, .long sT, .int kT, .int (nI nT), .int bT])), (t2, .inl (G.2.1, 16, .inr (.inl fT))), (mm, .inr (3, [.int 0, .long ns, .long sdM, .int (nI n), .int kM, .int (nI B), .int (nI q), .ref w1, .ref w2, .ref w3])), (w1, .inl (G.2.2.1, 100, .inl g)), (w2, .inl (G.2.2.2, 100, .inl h)), (w3, .inl (G.2.2.1, 10, .inl ink0))]) (ru_V (b := mm) (As := [.int (xs (i + 1)), .int 0]) (rest := [.int (-14)]) ⟨hx, hb, hml, hown, ht⟩ hKN (c_M_verdict_room l G _ mm w1 w2 w3 ns sdM n kM (nI B) q g h ink0 (xs (i + 1)) 0 (hP.sub [10, 11, 12, 13] rfl) ((hD.sub (ws' := [(mm, .inr (3, [.int 0, .long ns, .long sdM, .int (nI n), .int kM, .int (nI B), .int (nI q), .ref w1, .ref w2, .ref w3])), (w1, .inl (G.2.2.1, 100, .inl g)), (w2, .inl (G.2.2.2, 100, .inl h)), (w3, .inl (G.2.2.1, 10, .inl ink0))]) [10, 11, 12, 13] (by decide) rfl).weaken (fun _ _ _ _ => trivial)) hn hq hvdM hpo (show nI q = 100 from by rw [hq1]; rfl)) kc_L_46 ⟨rfl, rfl⟩ ⟨Nat.le_of_ble_eq_true rfl, Nat.le_of_ble_eq_true rfl⟩ (va_recv hK hP (ci := 3) (q0 := 10) rfl rfl) rfl hl.1 rfl (Nat.le_of_ble_eq_true rfl) d_L_law_300 ⟨Nat.le_of_ble_eq_true rfl, Nat.le_of_ble_eq_true rfl⟩) hP hD hS hA [10, 11, 12, 13] [0, 1, 2, 3, 4, 5, 6, 7, 8, 9] [0, 1, 2, 3, 4, 5, 6, 7, 8, 9, 10, 11, 12, 13] rfl rfl ⟨by decide, by decide, by decide⟩ (by decide) rfl rfl (fun H locs hP hD hS => ?_)
            refine lv_icmp_eq (tgt := 453) hx hb d_L_law_303 (by decide) (fun _ => ?_) (fun c3 => absurd (by decide) c3)
            exact next H locs ls ⟨d1, d2, v1, v2, v3, o1, t1, sd, k, n, fb, f, g, h, q, ns, B, o2, sO, kO, nO, bO, fO, t2, sT, kT, nT, bT, fT, w1, w2, w3, sdM, kM, hP, hD, hR, hnO, hnT⟩ hS (lv_sub hl [0, 1, 2, 3] rfl)
          · exact absurd c1 c2
        · refine lv_iconst (v := 1) hx hb d_L_law_273 (by decide) ?_
          refine lv_goto (tgt := 278) hx hb d_L_law_274 (by decide) ?_
          refine mu_i (wr := [(o1, .inr (1, [.ref o2, .long sO, .int kO, .int (nI nO), .int bO])), (o2, .inl (G.2.1, 16, .inr (.inl fO))), (t1, .inr (1, [.ref t2, .long sT, .int kT, .int (nI nT), .int bT])), (t2, .inl (G.2.1, 16, .inr (.inl fT))), (mm, .inr (3, [.int 0, .long ns, .long sdM, .int (nI n), .int kM, .int (nI B), .int (nI q), .ref w1, .ref w2, .ref w3])), (w1, .inl (G.2.2.1, 100, .inl g)), (w2, .inl (G.2.2.2, 100, .inl h)), (w3, .inl (G.2.2.1, 10, .inl ink0))]) (wn := [(x, .inr (0, [.ref d1, .ref v1, .ref o1, .ref t1, .long ns, .int (nI B)])), (d1, .inr (1, [.ref d2, .long sd, .int k, .int (nI n), .int fb])), (d2, .inl (G.2.1, 16, .inr (.inl f))), (v1, .inr (2, [.ref v2, .ref v3, .int (nI (tln g q (xs (i + 1))))])), (v2, .inl (G.2.2.1, 100, .inl (tlg g q (xs (i + 1))))), (v3, .inl (G.2.2.2, 100, .inl (tlh g h q (xs (i + 1)) 1))), (o1, .inr (1, [.ref o2, .long sO, .int kO, .int (nI nO), .int bO])), (o2, .inl (G.2.1, 16, .inr (.inl fO))), (t1, .inr (1, [.ref t2, .long sT, .int kT, .int (nI nT), .int bT])), (t2, .inl (G.2.1, 16, .inr (.inl fT))), (mm, .inr (3, [.int 0, .long ns, .long sdM, .int (nI n), .int kM, .int (nI B), .int (nI q), .ref w1, .ref w2, .ref w3])), (w1, .inl (G.2.2.1, 100, .inl g)), (w2, .inl (G.2.2.2, 100, .inl h)), (w3, .inl (G.2.2.1, 10, .inl ink0))]) (ru_V (b := x) (As := [.int (xs (i + 1)), .int 1]) (rest := []) ⟨hx, hb, hml, hown, ht⟩ hKN (c_P_verdict l G _ x d1 d2 v1 v2 v3 o1 t1 sd k n fb f g h q ns (nI B) (xs (i + 1)) 1 (hP.sub [0, 1, 2, 3, 4, 5] rfl) ((hD.sub (ws' := [(x, .inr (0, [.ref d1, .ref v1, .ref o1, .ref t1, .long ns, .int (nI B)])), (d1, .inr (1, [.ref d2, .long sd, .int k, .int (nI n), .int fb])), (d2, .inl (G.2.1, 16, .inr (.inl f))), (v1, .inr (2, [.ref v2, .ref v3, .int (nI q)])), (v2, .inl (G.2.2.1, 100, .inl g)), (v3, .inl (G.2.2.2, 100, .inl h))]) [0, 1, 2, 3, 4, 5] (by decide) rfl).weaken (fun _ _ _ _ => trivial)) hn hq hvd) kc_L_42 ⟨rfl, rfl⟩ ⟨Nat.le_of_ble_eq_true rfl, Nat.le_of_ble_eq_true rfl⟩ (va_recv hK hP (ci := 0) (q0 := 0) rfl rfl) rfl hl.1 rfl (Nat.le_of_ble_eq_true rfl) d_L_law_278 ⟨Nat.le_of_ble_eq_true rfl, Nat.le_of_ble_eq_true rfl⟩) hP hD hS hA [0, 1, 2, 3, 4, 5] [6, 7, 8, 9, 10, 11, 12, 13] [8, 9, 10, 11, 12, 13, 0, 1, 2, 3, 4, 5, 6, 7] rfl rfl ⟨by decide, by decide, by decide⟩ (by decide) rfl rfl (fun H locs hP hD hS => ?_)
          obtain ⟨e1, e2, e3, e4⟩ := tell_room (h := h) (y := 1) hv hq1
          rw [e2, e3, e4] at hP hD
          rw [show vdr g q (xs (i + 1)) = (-14) from by unfold vdr; rw [e1, if_pos rfl]]
          have hP : va_P G.1 classes [(x, .inr (0, [.ref d1, .ref v1, .ref o1, .ref t1, .long ns, .int (nI B)])), (d1, .inr (1, [.ref d2, .long sd, .int k, .int (nI n), .int fb])), (d2, .inl (G.2.1, 16, .inr (.inl f))), (v1, .inr (2, [.ref v2, .ref v3, .int (nI q)])), (v2, .inl (G.2.2.1, 100, .inl g)), (v3, .inl (G.2.2.2, 100, .inl h)), (o1, .inr (1, [.ref o2, .long sO, .int kO, .int (nI nO), .int bO])), (o2, .inl (G.2.1, 16, .inr (.inl fO))), (t1, .inr (1, [.ref t2, .long sT, .int kT, .int (nI nT), .int bT])), (t2, .inl (G.2.1, 16, .inr (.inl fT))), (mm, .inr (3, [.int 0, .long ns, .long sdM, .int (nI n), .int kM, .int (nI B), .int (nI q), .ref w1, .ref w2, .ref w3])), (w1, .inl (G.2.2.1, 100, .inl g)), (w2, .inl (G.2.2.2, 100, .inl h)), (w3, .inl (G.2.2.1, 10, .inl ink0))] H := hP
          have hD : va_D A [(x, .inr (0, [.ref d1, .ref v1, .ref o1, .ref t1, .long ns, .int (nI B)])), (d1, .inr (1, [.ref d2, .long sd, .int k, .int (nI n), .int fb])), (d2, .inl (G.2.1, 16, .inr (.inl f))), (v1, .inr (2, [.ref v2, .ref v3, .int (nI q)])), (v2, .inl (G.2.2.1, 100, .inl g)), (v3, .inl (G.2.2.2, 100, .inl h)), (o1, .inr (1, [.ref o2, .long sO, .int kO, .int (nI nO), .int bO])), (o2, .inl (G.2.1, 16, .inr (.inl fO))), (t1, .inr (1, [.ref t2, .long sT, .int kT, .int (nI nT), .int bT])), (t2, .inl (G.2.1, 16, .inr (.inl fT))), (mm, .inr (3, [.int 0, .long ns, .long sdM, .int (nI n), .int kM, .int (nI B), .int (nI q), .ref w1, .ref w2, .ref w3])), (w1, .inl (G.2.2.1, 100, .inl g)), (w2, .inl (G.2.2.2, 100, .inl h)), (w3, .inl (G.2.2.1, 10, .inl ink0))] := hD
          refine lv_aload_n hx hb d_L_law_281 rfl (lv_at hl 2 rfl) ?_
          refine lv_aload_n hx hb d_L_law_282 rfl (lv_at hl 0 rfl) ?_
          refine lv_iload_n hx hb d_L_law_283 rfl (lv_at hl 3 rfl) ?_
          refine lv_iconst (v := 1) hx hb d_L_law_284 (by decide) ?_
          refine lv_iadd hx hb d_L_law_285 ?_
          rw [show nI i + 1 = nI (i + 1) from nI_add i 1]
          refine va_sld hx hb hX hbl hbA hS (i := nI (i + 1)) (vp_in_nI (show (i + 1) < L by omega) (by omega)) d_L_law_286 ?_
          rw [nI_clamp (show (i + 1) < 2 ^ 31 by omega)]
          refine lv_aload_n hx hb d_L_law_287 rfl (lv_at hl 0 rfl) ?_
          refine lv_iload_n hx hb d_L_law_288 rfl (lv_at hl 3 rfl) ?_
          refine lv_iconst (v := 2) hx hb d_L_law_289 (by decide) ?_
          refine lv_iadd hx hb d_L_law_290 ?_
          rw [show nI i + 2 = nI (i + 2) from nI_add i 2]
          refine va_sld hx hb hX hbl hbA hS (i := nI (i + 2)) (vp_in_nI (show (i + 2) < L by omega) (by omega)) d_L_law_291 ?_
          rw [nI_clamp (show (i + 2) < 2 ^ 31 by omega)]
          refine lv_if_eq (tgt := 299) hx hb d_L_law_292 (by decide) (fun c4 => ?_) (fun c4 => ?_)
          · exact absurd c4 c1
          · refine lv_iconst (v := 1) hx hb d_L_law_295 (by decide) ?_
            refine lv_goto (tgt := 300) hx hb d_L_law_296 (by decide) ?_
            refine mu_i (wr := [(x, .inr (0, [.ref d1, .ref v1, .ref o1, .ref t1, .long ns, .int (nI B)])), (d1, .inr (1, [.ref d2, .long sd, .int k, .int (nI n), .int fb])), (d2, .inl (G.2.1, 16, .inr (.inl f))), (v1, .inr (2, [.ref v2, .ref v3, .int (nI q)])), (v2, .inl (G.2.2.1, 100, .inl g)), (v3, .inl (G.2.2.2, 100, .inl h)), (o1, .inr (1, [.ref o2, .long sO, .int kO, .int (nI nO), .int bO])), (o2, .inl (G.2.1, 16, .inr (.inl fO))), (t1, .inr (1, [.ref t2, .long sT, .int kT, .int (nI nT), .int bT])), (t2, .inl (G.2.1, 16, .inr (.inl fT)))]) (wn := [(x, .inr (0, [.ref d1, .ref v1, .ref o1, .ref t1, .long ns, .int (nI B)])), (d1, .inr (1, [.ref d2, .long sd, .int k, .int (nI n), .int fb])), (d2, .inl (G.2.1, 16, .inr (.inl f))), (v1, .inr (2, [.ref v2, .ref v3, .int (nI q)])), (v2, .inl (G.2.2.1, 100, .inl g)), (v3, .inl (G.2.2.2, 100, .inl h)), (o1, .inr (1, [.ref o2, .long sO, .int kO, .int (nI nO), .int bO])), (o2, .inl (G.2.1, 16, .inr (.inl fO))), (t1, .inr (1, [.ref t2, .long sT, .int kT, .int (nI nT), .int bT])), (t2, .inl (G.2.1, 16, .inr (.inl fT))), (mm, .inr (3, [.int 0, .long ns, .long sdM, .int (nI n), .int kM, .int (nI B), .int (nI q), .ref w1, .ref w2, .ref w3])), (w1, .inl (G.2.2.1, 100, .inl g)), (w2, .inl (G.2.2.2, 100, .inl h)), (w3, .inl (G.2.2.1, 10, .inl ink0))]) (ru_V (b := mm) (As := [.int (xs (i + 1)), .int 1]) (rest := [.int (-14)]) ⟨hx, hb, hml, hown, ht⟩ hKN (c_M_verdict_room l G _ mm w1 w2 w3 ns sdM n kM (nI B) q g h ink0 (xs (i + 1)) 1 (hP.sub [10, 11, 12, 13] rfl) ((hD.sub (ws' := [(mm, .inr (3, [.int 0, .long ns, .long sdM, .int (nI n), .int kM, .int (nI B), .int (nI q), .ref w1, .ref w2, .ref w3])), (w1, .inl (G.2.2.1, 100, .inl g)), (w2, .inl (G.2.2.2, 100, .inl h)), (w3, .inl (G.2.2.1, 10, .inl ink0))]) [10, 11, 12, 13] (by decide) rfl).weaken (fun _ _ _ _ => trivial)) hn hq hvdM hpo (show nI q = 100 from by rw [hq1]; rfl)) kc_L_46 ⟨rfl, rfl⟩ ⟨Nat.le_of_ble_eq_true rfl, Nat.le_of_ble_eq_true rfl⟩ (va_recv hK hP (ci := 3) (q0 := 10) rfl rfl) rfl hl.1 rfl (Nat.le_of_ble_eq_true rfl) d_L_law_300 ⟨Nat.le_of_ble_eq_true rfl, Nat.le_of_ble_eq_true rfl⟩) hP hD hS hA [10, 11, 12, 13] [0, 1, 2, 3, 4, 5, 6, 7, 8, 9] [0, 1, 2, 3, 4, 5, 6, 7, 8, 9, 10, 11, 12, 13] rfl rfl ⟨by decide, by decide, by decide⟩ (by decide) rfl rfl (fun H locs hP hD hS => ?_)
            refine lv_icmp_eq (tgt := 453) hx hb d_L_law_303 (by decide) (fun _ => ?_) (fun c5 => absurd (by decide) c5)
            exact next H locs ls ⟨d1, d2, v1, v2, v3, o1, t1, sd, k, n, fb, f, g, h, q, ns, B, o2, sO, kO, nO, bO, fO, t2, sT, kT, nT, bT, fT, w1, w2, w3, sdM, kM, hP, hD, hR, hnO, hnT⟩ hS (lv_sub hl [0, 1, 2, 3] rfl)
      · have hq2 : q < 100 := by omega
        refine lv_aload_n hx hb d_L_law_259 rfl (lv_at hl 1 rfl) ?_
        refine lv_aload_n hx hb d_L_law_260 rfl (lv_at hl 0 rfl) ?_
        refine lv_iload_n hx hb d_L_law_261 rfl (lv_at hl 3 rfl) ?_
        refine lv_iconst (v := 1) hx hb d_L_law_262 (by decide) ?_
        refine lv_iadd hx hb d_L_law_263 ?_
        rw [show nI i + 1 = nI (i + 1) from nI_add i 1]
        refine va_sld hx hb hX hbl hbA hS (i := nI (i + 1)) (vp_in_nI (show (i + 1) < L by omega) (by omega)) d_L_law_264 ?_
        rw [nI_clamp (show (i + 1) < 2 ^ 31 by omega)]
        refine lv_aload_n hx hb d_L_law_265 rfl (lv_at hl 0 rfl) ?_
        refine lv_iload_n hx hb d_L_law_266 rfl (lv_at hl 3 rfl) ?_
        refine lv_iconst (v := 2) hx hb d_L_law_267 (by decide) ?_
        refine lv_iadd hx hb d_L_law_268 ?_
        rw [show nI i + 2 = nI (i + 2) from nI_add i 2]
        refine va_sld hx hb hX hbl hbA hS (i := nI (i + 2)) (vp_in_nI (show (i + 2) < L by omega) (by omega)) d_L_law_269 ?_
        rw [nI_clamp (show (i + 2) < 2 ^ 31 by omega)]
        refine lv_if_eq (tgt := 277) hx hb d_L_law_270 (by decide) (fun c6 => ?_) (fun c6 => ?_)
        · refine lv_iconst (v := 0) hx hb d_L_law_277 (by decide) ?_
          refine mu_i (wr := [(o1, .inr (1, [.ref o2, .long sO, .int kO, .int (nI nO), .int bO])), (o2, .inl (G.2.1, 16, .inr (.inl fO))), (t1, .inr (1, [.ref t2, .long sT, .int kT, .int (nI nT), .int bT])), (t2, .inl (G.2.1, 16, .inr (.inl fT))), (mm, .inr (3, [.int 0, .long ns, .long sdM, .int (nI n), .int kM, .int (nI B), .int (nI q), .ref w1, .ref w2, .ref w3])), (w1, .inl (G.2.2.1, 100, .inl g)), (w2, .inl (G.2.2.2, 100, .inl h)), (w3, .inl (G.2.2.1, 10, .inl ink0))]) (wn := [(x, .inr (0, [.ref d1, .ref v1, .ref o1, .ref t1, .long ns, .int (nI B)])), (d1, .inr (1, [.ref d2, .long sd, .int k, .int (nI n), .int fb])), (d2, .inl (G.2.1, 16, .inr (.inl f))), (v1, .inr (2, [.ref v2, .ref v3, .int (nI (tln g q (xs (i + 1))))])), (v2, .inl (G.2.2.1, 100, .inl (tlg g q (xs (i + 1))))), (v3, .inl (G.2.2.2, 100, .inl (tlh g h q (xs (i + 1)) 0))), (o1, .inr (1, [.ref o2, .long sO, .int kO, .int (nI nO), .int bO])), (o2, .inl (G.2.1, 16, .inr (.inl fO))), (t1, .inr (1, [.ref t2, .long sT, .int kT, .int (nI nT), .int bT])), (t2, .inl (G.2.1, 16, .inr (.inl fT))), (mm, .inr (3, [.int 0, .long ns, .long sdM, .int (nI n), .int kM, .int (nI B), .int (nI q), .ref w1, .ref w2, .ref w3])), (w1, .inl (G.2.2.1, 100, .inl g)), (w2, .inl (G.2.2.2, 100, .inl h)), (w3, .inl (G.2.2.1, 10, .inl ink0))]) (ru_V (b := x) (As := [.int (xs (i + 1)), .int 0]) (rest := []) ⟨hx, hb, hml, hown, ht⟩ hKN (c_P_verdict l G _ x d1 d2 v1 v2 v3 o1 t1 sd k n fb f g h q ns (nI B) (xs (i + 1)) 0 (hP.sub [0, 1, 2, 3, 4, 5] rfl) ((hD.sub (ws' := [(x, .inr (0, [.ref d1, .ref v1, .ref o1, .ref t1, .long ns, .int (nI B)])), (d1, .inr (1, [.ref d2, .long sd, .int k, .int (nI n), .int fb])), (d2, .inl (G.2.1, 16, .inr (.inl f))), (v1, .inr (2, [.ref v2, .ref v3, .int (nI q)])), (v2, .inl (G.2.2.1, 100, .inl g)), (v3, .inl (G.2.2.2, 100, .inl h))]) [0, 1, 2, 3, 4, 5] (by decide) rfl).weaken (fun _ _ _ _ => trivial)) hn hq hvd) kc_L_42 ⟨rfl, rfl⟩ ⟨Nat.le_of_ble_eq_true rfl, Nat.le_of_ble_eq_true rfl⟩ (va_recv hK hP (ci := 0) (q0 := 0) rfl rfl) rfl hl.1 rfl (Nat.le_of_ble_eq_true rfl) d_L_law_278 ⟨Nat.le_of_ble_eq_true rfl, Nat.le_of_ble_eq_true rfl⟩) hP hD hS hA [0, 1, 2, 3, 4, 5] [6, 7, 8, 9, 10, 11, 12, 13] [8, 9, 10, 11, 12, 13, 0, 1, 2, 3, 4, 5, 6, 7] rfl rfl ⟨by decide, by decide, by decide⟩ (by decide) rfl rfl (fun H locs hP hD hS => ?_)
          obtain ⟨e1, e2, e3, e4⟩ := tell_new (h := h) (y := 0) hv hq2
          rw [e2, e3, e4] at hP hD
          rw [show vdr g q (xs (i + 1)) = (nI (q + 1)) from by unfold vdr; rw [e1, if_neg (show ¬ (1 : Int32) = 0 by decide), e4]]
          have hP : va_P G.1 classes [(x, .inr (0, [.ref d1, .ref v1, .ref o1, .ref t1, .long ns, .int (nI B)])), (d1, .inr (1, [.ref d2, .long sd, .int k, .int (nI n), .int fb])), (d2, .inl (G.2.1, 16, .inr (.inl f))), (v1, .inr (2, [.ref v2, .ref v3, .int (nI (q + 1))])), (v2, .inl (G.2.2.1, 100, .inl (upd g q (xs (i + 1))))), (v3, .inl (G.2.2.2, 100, .inl (upd h q (vp_nar .boolean 0)))), (o1, .inr (1, [.ref o2, .long sO, .int kO, .int (nI nO), .int bO])), (o2, .inl (G.2.1, 16, .inr (.inl fO))), (t1, .inr (1, [.ref t2, .long sT, .int kT, .int (nI nT), .int bT])), (t2, .inl (G.2.1, 16, .inr (.inl fT))), (mm, .inr (3, [.int 0, .long ns, .long sdM, .int (nI n), .int kM, .int (nI B), .int (nI q), .ref w1, .ref w2, .ref w3])), (w1, .inl (G.2.2.1, 100, .inl g)), (w2, .inl (G.2.2.2, 100, .inl h)), (w3, .inl (G.2.2.1, 10, .inl ink0))] H := hP
          have hD : va_D A [(x, .inr (0, [.ref d1, .ref v1, .ref o1, .ref t1, .long ns, .int (nI B)])), (d1, .inr (1, [.ref d2, .long sd, .int k, .int (nI n), .int fb])), (d2, .inl (G.2.1, 16, .inr (.inl f))), (v1, .inr (2, [.ref v2, .ref v3, .int (nI (q + 1))])), (v2, .inl (G.2.2.1, 100, .inl (upd g q (xs (i + 1))))), (v3, .inl (G.2.2.2, 100, .inl (upd h q (vp_nar .boolean 0)))), (o1, .inr (1, [.ref o2, .long sO, .int kO, .int (nI nO), .int bO])), (o2, .inl (G.2.1, 16, .inr (.inl fO))), (t1, .inr (1, [.ref t2, .long sT, .int kT, .int (nI nT), .int bT])), (t2, .inl (G.2.1, 16, .inr (.inl fT))), (mm, .inr (3, [.int 0, .long ns, .long sdM, .int (nI n), .int kM, .int (nI B), .int (nI q), .ref w1, .ref w2, .ref w3])), (w1, .inl (G.2.2.1, 100, .inl g)), (w2, .inl (G.2.2.2, 100, .inl h)), (w3, .inl (G.2.2.1, 10, .inl ink0))] := hD
          refine lv_aload_n hx hb d_L_law_281 rfl (lv_at hl 2 rfl) ?_
          refine lv_aload_n hx hb d_L_law_282 rfl (lv_at hl 0 rfl) ?_
          refine lv_iload_n hx hb d_L_law_283 rfl (lv_at hl 3 rfl) ?_
          refine lv_iconst (v := 1) hx hb d_L_law_284 (by decide) ?_
          refine lv_iadd hx hb d_L_law_285 ?_
          rw [show nI i + 1 = nI (i + 1) from nI_add i 1]
          refine va_sld hx hb hX hbl hbA hS (i := nI (i + 1)) (vp_in_nI (show (i + 1) < L by omega) (by omega)) d_L_law_286 ?_
          rw [nI_clamp (show (i + 1) < 2 ^ 31 by omega)]
          refine lv_aload_n hx hb d_L_law_287 rfl (lv_at hl 0 rfl) ?_
          refine lv_iload_n hx hb d_L_law_288 rfl (lv_at hl 3 rfl) ?_
          refine lv_iconst (v := 2) hx hb d_L_law_289 (by decide) ?_
          refine lv_iadd hx hb d_L_law_290 ?_
          rw [show nI i + 2 = nI (i + 2) from nI_add i 2]
          refine va_sld hx hb hX hbl hbA hS (i := nI (i + 2)) (vp_in_nI (show (i + 2) < L by omega) (by omega)) d_L_law_291 ?_
          rw [nI_clamp (show (i + 2) < 2 ^ 31 by omega)]
          refine lv_if_eq (tgt := 299) hx hb d_L_law_292 (by decide) (fun c7 => ?_) (fun c7 => ?_)
          · refine lv_iconst (v := 0) hx hb d_L_law_299 (by decide) ?_
            refine mu_i (wr := [(x, .inr (0, [.ref d1, .ref v1, .ref o1, .ref t1, .long ns, .int (nI B)])), (d1, .inr (1, [.ref d2, .long sd, .int k, .int (nI n), .int fb])), (d2, .inl (G.2.1, 16, .inr (.inl f))), (v1, .inr (2, [.ref v2, .ref v3, .int (nI (q + 1))])), (v2, .inl (G.2.2.1, 100, .inl (upd g q (xs (i + 1))))), (v3, .inl (G.2.2.2, 100, .inl (upd h q (vp_nar .boolean 0)))), (o1, .inr (1, [.ref o2, .long sO, .int kO, .int (nI nO), .int bO])), (o2, .inl (G.2.1, 16, .inr (.inl fO))), (t1, .inr (1, [.ref t2, .long sT, .int kT, .int (nI nT), .int bT])), (t2, .inl (G.2.1, 16, .inr (.inl fT)))]) (wn := [(x, .inr (0, [.ref d1, .ref v1, .ref o1, .ref t1, .long ns, .int (nI B)])), (d1, .inr (1, [.ref d2, .long sd, .int k, .int (nI n), .int fb])), (d2, .inl (G.2.1, 16, .inr (.inl f))), (v1, .inr (2, [.ref v2, .ref v3, .int (nI (q + 1))])), (v2, .inl (G.2.2.1, 100, .inl (upd g q (xs (i + 1))))), (v3, .inl (G.2.2.2, 100, .inl (upd h q (vp_nar .boolean 0)))), (o1, .inr (1, [.ref o2, .long sO, .int kO, .int (nI nO), .int bO])), (o2, .inl (G.2.1, 16, .inr (.inl fO))), (t1, .inr (1, [.ref t2, .long sT, .int kT, .int (nI nT), .int bT])), (t2, .inl (G.2.1, 16, .inr (.inl fT))), (mm, .inr (3, [.int 0, .long ns, .long sdM, .int (nI n), .int kM, .int (nI B), .int (nI (q + 1)), .ref w1, .ref w2, .ref w3])), (w1, .inl (G.2.2.1, 100, .inl (upd g q (xs (i + 1))))), (w2, .inl (G.2.2.2, 100, .inl (upd h q (vp_nar .boolean 0)))), (w3, .inl (G.2.2.1, 10, .inl ink0))]) (ru_V (b := mm) (As := [.int (xs (i + 1)), .int 0]) (rest := [.int (nI (q + 1))]) ⟨hx, hb, hml, hown, ht⟩ hKN (c_M_verdict_new l G _ mm w1 w2 w3 ns sdM n kM (nI B) q g h ink0 (xs (i + 1)) 0 (hP.sub [10, 11, 12, 13] rfl) ((hD.sub (ws' := [(mm, .inr (3, [.int 0, .long ns, .long sdM, .int (nI n), .int kM, .int (nI B), .int (nI q), .ref w1, .ref w2, .ref w3])), (w1, .inl (G.2.2.1, 100, .inl g)), (w2, .inl (G.2.2.2, 100, .inl h)), (w3, .inl (G.2.2.1, 10, .inl ink0))]) [10, 11, 12, 13] (by decide) rfl).weaken (fun _ _ _ _ => trivial)) hn hq hvdM hpo (show ¬ nI q = 100 from fun z => absurd ((nI_eq (b := 100) (by omega) (by omega)).mp z) (by omega)) hq2) kc_L_46 ⟨rfl, rfl⟩ ⟨Nat.le_of_ble_eq_true rfl, Nat.le_of_ble_eq_true rfl⟩ (va_recv hK hP (ci := 3) (q0 := 10) rfl rfl) rfl hl.1 rfl (Nat.le_of_ble_eq_true rfl) d_L_law_300 ⟨Nat.le_of_ble_eq_true rfl, Nat.le_of_ble_eq_true rfl⟩) hP hD hS hA [10, 11, 12, 13] [0, 1, 2, 3, 4, 5, 6, 7, 8, 9] [0, 1, 2, 3, 4, 5, 6, 7, 8, 9, 10, 11, 12, 13] rfl rfl ⟨by decide, by decide, by decide⟩ (by decide) rfl rfl (fun H locs hP hD hS => ?_)
            refine lv_icmp_eq (tgt := 453) hx hb d_L_law_303 (by decide) (fun c8 => ?_) (fun c8 => ?_)
            · exact next H locs ls ⟨d1, d2, v1, v2, v3, o1, t1, sd, k, n, fb, f, (upd g q (xs (i + 1))), (upd h q (vp_nar .boolean 0)), (q + 1), ns, B, o2, sO, kO, nO, bO, fO, t2, sT, kT, nT, bT, fT, w1, w2, w3, sdM, kM, hP, hD, ⟨hn, by omega, hd.new hno, nz_new hz (vd_0 hvd), hB, hk⟩, hnO, hnT⟩ hS (lv_sub hl [0, 1, 2, 3] rfl)
            · exact absurd rfl c8
          · exact absurd c6 c7
        · refine lv_iconst (v := 1) hx hb d_L_law_273 (by decide) ?_
          refine lv_goto (tgt := 278) hx hb d_L_law_274 (by decide) ?_
          refine mu_i (wr := [(o1, .inr (1, [.ref o2, .long sO, .int kO, .int (nI nO), .int bO])), (o2, .inl (G.2.1, 16, .inr (.inl fO))), (t1, .inr (1, [.ref t2, .long sT, .int kT, .int (nI nT), .int bT])), (t2, .inl (G.2.1, 16, .inr (.inl fT))), (mm, .inr (3, [.int 0, .long ns, .long sdM, .int (nI n), .int kM, .int (nI B), .int (nI q), .ref w1, .ref w2, .ref w3])), (w1, .inl (G.2.2.1, 100, .inl g)), (w2, .inl (G.2.2.2, 100, .inl h)), (w3, .inl (G.2.2.1, 10, .inl ink0))]) (wn := [(x, .inr (0, [.ref d1, .ref v1, .ref o1, .ref t1, .long ns, .int (nI B)])), (d1, .inr (1, [.ref d2, .long sd, .int k, .int (nI n), .int fb])), (d2, .inl (G.2.1, 16, .inr (.inl f))), (v1, .inr (2, [.ref v2, .ref v3, .int (nI (tln g q (xs (i + 1))))])), (v2, .inl (G.2.2.1, 100, .inl (tlg g q (xs (i + 1))))), (v3, .inl (G.2.2.2, 100, .inl (tlh g h q (xs (i + 1)) 1))), (o1, .inr (1, [.ref o2, .long sO, .int kO, .int (nI nO), .int bO])), (o2, .inl (G.2.1, 16, .inr (.inl fO))), (t1, .inr (1, [.ref t2, .long sT, .int kT, .int (nI nT), .int bT])), (t2, .inl (G.2.1, 16, .inr (.inl fT))), (mm, .inr (3, [.int 0, .long ns, .long sdM, .int (nI n), .int kM, .int (nI B), .int (nI q), .ref w1, .ref w2, .ref w3])), (w1, .inl (G.2.2.1, 100, .inl g)), (w2, .inl (G.2.2.2, 100, .inl h)), (w3, .inl (G.2.2.1, 10, .inl ink0))]) (ru_V (b := x) (As := [.int (xs (i + 1)), .int 1]) (rest := []) ⟨hx, hb, hml, hown, ht⟩ hKN (c_P_verdict l G _ x d1 d2 v1 v2 v3 o1 t1 sd k n fb f g h q ns (nI B) (xs (i + 1)) 1 (hP.sub [0, 1, 2, 3, 4, 5] rfl) ((hD.sub (ws' := [(x, .inr (0, [.ref d1, .ref v1, .ref o1, .ref t1, .long ns, .int (nI B)])), (d1, .inr (1, [.ref d2, .long sd, .int k, .int (nI n), .int fb])), (d2, .inl (G.2.1, 16, .inr (.inl f))), (v1, .inr (2, [.ref v2, .ref v3, .int (nI q)])), (v2, .inl (G.2.2.1, 100, .inl g)), (v3, .inl (G.2.2.2, 100, .inl h))]) [0, 1, 2, 3, 4, 5] (by decide) rfl).weaken (fun _ _ _ _ => trivial)) hn hq hvd) kc_L_42 ⟨rfl, rfl⟩ ⟨Nat.le_of_ble_eq_true rfl, Nat.le_of_ble_eq_true rfl⟩ (va_recv hK hP (ci := 0) (q0 := 0) rfl rfl) rfl hl.1 rfl (Nat.le_of_ble_eq_true rfl) d_L_law_278 ⟨Nat.le_of_ble_eq_true rfl, Nat.le_of_ble_eq_true rfl⟩) hP hD hS hA [0, 1, 2, 3, 4, 5] [6, 7, 8, 9, 10, 11, 12, 13] [8, 9, 10, 11, 12, 13, 0, 1, 2, 3, 4, 5, 6, 7] rfl rfl ⟨by decide, by decide, by decide⟩ (by decide) rfl rfl (fun H locs hP hD hS => ?_)
          obtain ⟨e1, e2, e3, e4⟩ := tell_new (h := h) (y := 1) hv hq2
          rw [e2, e3, e4] at hP hD
          rw [show vdr g q (xs (i + 1)) = (nI (q + 1)) from by unfold vdr; rw [e1, if_neg (show ¬ (1 : Int32) = 0 by decide), e4]]
          have hP : va_P G.1 classes [(x, .inr (0, [.ref d1, .ref v1, .ref o1, .ref t1, .long ns, .int (nI B)])), (d1, .inr (1, [.ref d2, .long sd, .int k, .int (nI n), .int fb])), (d2, .inl (G.2.1, 16, .inr (.inl f))), (v1, .inr (2, [.ref v2, .ref v3, .int (nI (q + 1))])), (v2, .inl (G.2.2.1, 100, .inl (upd g q (xs (i + 1))))), (v3, .inl (G.2.2.2, 100, .inl (upd h q (vp_nar .boolean 1)))), (o1, .inr (1, [.ref o2, .long sO, .int kO, .int (nI nO), .int bO])), (o2, .inl (G.2.1, 16, .inr (.inl fO))), (t1, .inr (1, [.ref t2, .long sT, .int kT, .int (nI nT), .int bT])), (t2, .inl (G.2.1, 16, .inr (.inl fT))), (mm, .inr (3, [.int 0, .long ns, .long sdM, .int (nI n), .int kM, .int (nI B), .int (nI q), .ref w1, .ref w2, .ref w3])), (w1, .inl (G.2.2.1, 100, .inl g)), (w2, .inl (G.2.2.2, 100, .inl h)), (w3, .inl (G.2.2.1, 10, .inl ink0))] H := hP
          have hD : va_D A [(x, .inr (0, [.ref d1, .ref v1, .ref o1, .ref t1, .long ns, .int (nI B)])), (d1, .inr (1, [.ref d2, .long sd, .int k, .int (nI n), .int fb])), (d2, .inl (G.2.1, 16, .inr (.inl f))), (v1, .inr (2, [.ref v2, .ref v3, .int (nI (q + 1))])), (v2, .inl (G.2.2.1, 100, .inl (upd g q (xs (i + 1))))), (v3, .inl (G.2.2.2, 100, .inl (upd h q (vp_nar .boolean 1)))), (o1, .inr (1, [.ref o2, .long sO, .int kO, .int (nI nO), .int bO])), (o2, .inl (G.2.1, 16, .inr (.inl fO))), (t1, .inr (1, [.ref t2, .long sT, .int kT, .int (nI nT), .int bT])), (t2, .inl (G.2.1, 16, .inr (.inl fT))), (mm, .inr (3, [.int 0, .long ns, .long sdM, .int (nI n), .int kM, .int (nI B), .int (nI q), .ref w1, .ref w2, .ref w3])), (w1, .inl (G.2.2.1, 100, .inl g)), (w2, .inl (G.2.2.2, 100, .inl h)), (w3, .inl (G.2.2.1, 10, .inl ink0))] := hD
          refine lv_aload_n hx hb d_L_law_281 rfl (lv_at hl 2 rfl) ?_
          refine lv_aload_n hx hb d_L_law_282 rfl (lv_at hl 0 rfl) ?_
          refine lv_iload_n hx hb d_L_law_283 rfl (lv_at hl 3 rfl) ?_
          refine lv_iconst (v := 1) hx hb d_L_law_284 (by decide) ?_
          refine lv_iadd hx hb d_L_law_285 ?_
          rw [show nI i + 1 = nI (i + 1) from nI_add i 1]
          refine va_sld hx hb hX hbl hbA hS (i := nI (i + 1)) (vp_in_nI (show (i + 1) < L by omega) (by omega)) d_L_law_286 ?_
          rw [nI_clamp (show (i + 1) < 2 ^ 31 by omega)]
          refine lv_aload_n hx hb d_L_law_287 rfl (lv_at hl 0 rfl) ?_
          refine lv_iload_n hx hb d_L_law_288 rfl (lv_at hl 3 rfl) ?_
          refine lv_iconst (v := 2) hx hb d_L_law_289 (by decide) ?_
          refine lv_iadd hx hb d_L_law_290 ?_
          rw [show nI i + 2 = nI (i + 2) from nI_add i 2]
          refine va_sld hx hb hX hbl hbA hS (i := nI (i + 2)) (vp_in_nI (show (i + 2) < L by omega) (by omega)) d_L_law_291 ?_
          rw [nI_clamp (show (i + 2) < 2 ^ 31 by omega)]
          refine lv_if_eq (tgt := 299) hx hb d_L_law_292 (by decide) (fun c9 => ?_) (fun c9 => ?_)
          · exact absurd c9 c6
          · refine lv_iconst (v := 1) hx hb d_L_law_295 (by decide) ?_
            refine lv_goto (tgt := 300) hx hb d_L_law_296 (by decide) ?_
            refine mu_i (wr := [(x, .inr (0, [.ref d1, .ref v1, .ref o1, .ref t1, .long ns, .int (nI B)])), (d1, .inr (1, [.ref d2, .long sd, .int k, .int (nI n), .int fb])), (d2, .inl (G.2.1, 16, .inr (.inl f))), (v1, .inr (2, [.ref v2, .ref v3, .int (nI (q + 1))])), (v2, .inl (G.2.2.1, 100, .inl (upd g q (xs (i + 1))))), (v3, .inl (G.2.2.2, 100, .inl (upd h q (vp_nar .boolean 1)))), (o1, .inr (1, [.ref o2, .long sO, .int kO, .int (nI nO), .int bO])), (o2, .inl (G.2.1, 16, .inr (.inl fO))), (t1, .inr (1, [.ref t2, .long sT, .int kT, .int (nI nT), .int bT])), (t2, .inl (G.2.1, 16, .inr (.inl fT)))]) (wn := [(x, .inr (0, [.ref d1, .ref v1, .ref o1, .ref t1, .long ns, .int (nI B)])), (d1, .inr (1, [.ref d2, .long sd, .int k, .int (nI n), .int fb])), (d2, .inl (G.2.1, 16, .inr (.inl f))), (v1, .inr (2, [.ref v2, .ref v3, .int (nI (q + 1))])), (v2, .inl (G.2.2.1, 100, .inl (upd g q (xs (i + 1))))), (v3, .inl (G.2.2.2, 100, .inl (upd h q (vp_nar .boolean 1)))), (o1, .inr (1, [.ref o2, .long sO, .int kO, .int (nI nO), .int bO])), (o2, .inl (G.2.1, 16, .inr (.inl fO))), (t1, .inr (1, [.ref t2, .long sT, .int kT, .int (nI nT), .int bT])), (t2, .inl (G.2.1, 16, .inr (.inl fT))), (mm, .inr (3, [.int 0, .long ns, .long sdM, .int (nI n), .int kM, .int (nI B), .int (nI (q + 1)), .ref w1, .ref w2, .ref w3])), (w1, .inl (G.2.2.1, 100, .inl (upd g q (xs (i + 1))))), (w2, .inl (G.2.2.2, 100, .inl (upd h q (vp_nar .boolean 1)))), (w3, .inl (G.2.2.1, 10, .inl ink0))]) (ru_V (b := mm) (As := [.int (xs (i + 1)), .int 1]) (rest := [.int (nI (q + 1))]) ⟨hx, hb, hml, hown, ht⟩ hKN (c_M_verdict_new l G _ mm w1 w2 w3 ns sdM n kM (nI B) q g h ink0 (xs (i + 1)) 1 (hP.sub [10, 11, 12, 13] rfl) ((hD.sub (ws' := [(mm, .inr (3, [.int 0, .long ns, .long sdM, .int (nI n), .int kM, .int (nI B), .int (nI q), .ref w1, .ref w2, .ref w3])), (w1, .inl (G.2.2.1, 100, .inl g)), (w2, .inl (G.2.2.2, 100, .inl h)), (w3, .inl (G.2.2.1, 10, .inl ink0))]) [10, 11, 12, 13] (by decide) rfl).weaken (fun _ _ _ _ => trivial)) hn hq hvdM hpo (show ¬ nI q = 100 from fun z => absurd ((nI_eq (b := 100) (by omega) (by omega)).mp z) (by omega)) hq2) kc_L_46 ⟨rfl, rfl⟩ ⟨Nat.le_of_ble_eq_true rfl, Nat.le_of_ble_eq_true rfl⟩ (va_recv hK hP (ci := 3) (q0 := 10) rfl rfl) rfl hl.1 rfl (Nat.le_of_ble_eq_true rfl) d_L_law_300 ⟨Nat.le_of_ble_eq_true rfl, Nat.le_of_ble_eq_true rfl⟩) hP hD hS hA [10, 11, 12, 13] [0, 1, 2, 3, 4, 5, 6, 7, 8, 9] [0, 1, 2, 3, 4, 5, 6, 7, 8, 9, 10, 11, 12, 13] rfl rfl ⟨by decide, by decide, by decide⟩ (by decide) rfl rfl (fun H locs hP hD hS => ?_)
            refine lv_icmp_eq (tgt := 453) hx hb d_L_law_303 (by decide) (fun c10 => ?_) (fun c10 => ?_)
            · exact next H locs ls ⟨d1, d2, v1, v2, v3, o1, t1, sd, k, n, fb, f, (upd g q (xs (i + 1))), (upd h q (vp_nar .boolean 1)), (q + 1), ns, B, o2, sO, kO, nO, bO, fO, t2, sT, kT, nT, bT, fT, w1, w2, w3, sdM, kM, hP, hD, ⟨hn, by omega, hd.new hno, nz_new hz (vd_0 hvd), hB, hk⟩, hnO, hnT⟩ hS (lv_sub hl [0, 1, 2, 3] rfl)
            · exact absurd rfl c10
    · refine lv_aload_n hx hb d_L_law_259 rfl (lv_at hl 1 rfl) ?_
      refine lv_aload_n hx hb d_L_law_260 rfl (lv_at hl 0 rfl) ?_
      refine lv_iload_n hx hb d_L_law_261 rfl (lv_at hl 3 rfl) ?_
      refine lv_iconst (v := 1) hx hb d_L_law_262 (by decide) ?_
      refine lv_iadd hx hb d_L_law_263 ?_
      rw [show nI i + 1 = nI (i + 1) from nI_add i 1]
      refine va_sld hx hb hX hbl hbA hS (i := nI (i + 1)) (vp_in_nI (show (i + 1) < L by omega) (by omega)) d_L_law_264 ?_
      rw [nI_clamp (show (i + 1) < 2 ^ 31 by omega)]
      refine lv_aload_n hx hb d_L_law_265 rfl (lv_at hl 0 rfl) ?_
      refine lv_iload_n hx hb d_L_law_266 rfl (lv_at hl 3 rfl) ?_
      refine lv_iconst (v := 2) hx hb d_L_law_267 (by decide) ?_
      refine lv_iadd hx hb d_L_law_268 ?_
      rw [show nI i + 2 = nI (i + 2) from nI_add i 2]
      refine va_sld hx hb hX hbl hbA hS (i := nI (i + 2)) (vp_in_nI (show (i + 2) < L by omega) (by omega)) d_L_law_269 ?_
      rw [nI_clamp (show (i + 2) < 2 ^ 31 by omega)]
      refine lv_if_eq (tgt := 277) hx hb d_L_law_270 (by decide) (fun c11 => ?_) (fun c11 => ?_)
      · refine lv_iconst (v := 0) hx hb d_L_law_277 (by decide) ?_
        refine mu_i (wr := [(o1, .inr (1, [.ref o2, .long sO, .int kO, .int (nI nO), .int bO])), (o2, .inl (G.2.1, 16, .inr (.inl fO))), (t1, .inr (1, [.ref t2, .long sT, .int kT, .int (nI nT), .int bT])), (t2, .inl (G.2.1, 16, .inr (.inl fT))), (mm, .inr (3, [.int 0, .long ns, .long sdM, .int (nI n), .int kM, .int (nI B), .int (nI q), .ref w1, .ref w2, .ref w3])), (w1, .inl (G.2.2.1, 100, .inl g)), (w2, .inl (G.2.2.2, 100, .inl h)), (w3, .inl (G.2.2.1, 10, .inl ink0))]) (wn := [(x, .inr (0, [.ref d1, .ref v1, .ref o1, .ref t1, .long ns, .int (nI B)])), (d1, .inr (1, [.ref d2, .long sd, .int k, .int (nI n), .int fb])), (d2, .inl (G.2.1, 16, .inr (.inl f))), (v1, .inr (2, [.ref v2, .ref v3, .int (nI (tln g q (xs (i + 1))))])), (v2, .inl (G.2.2.1, 100, .inl (tlg g q (xs (i + 1))))), (v3, .inl (G.2.2.2, 100, .inl (tlh g h q (xs (i + 1)) 0))), (o1, .inr (1, [.ref o2, .long sO, .int kO, .int (nI nO), .int bO])), (o2, .inl (G.2.1, 16, .inr (.inl fO))), (t1, .inr (1, [.ref t2, .long sT, .int kT, .int (nI nT), .int bT])), (t2, .inl (G.2.1, 16, .inr (.inl fT))), (mm, .inr (3, [.int 0, .long ns, .long sdM, .int (nI n), .int kM, .int (nI B), .int (nI q), .ref w1, .ref w2, .ref w3])), (w1, .inl (G.2.2.1, 100, .inl g)), (w2, .inl (G.2.2.2, 100, .inl h)), (w3, .inl (G.2.2.1, 10, .inl ink0))]) (ru_V (b := x) (As := [.int (xs (i + 1)), .int 0]) (rest := []) ⟨hx, hb, hml, hown, ht⟩ hKN (c_P_verdict l G _ x d1 d2 v1 v2 v3 o1 t1 sd k n fb f g h q ns (nI B) (xs (i + 1)) 0 (hP.sub [0, 1, 2, 3, 4, 5] rfl) ((hD.sub (ws' := [(x, .inr (0, [.ref d1, .ref v1, .ref o1, .ref t1, .long ns, .int (nI B)])), (d1, .inr (1, [.ref d2, .long sd, .int k, .int (nI n), .int fb])), (d2, .inl (G.2.1, 16, .inr (.inl f))), (v1, .inr (2, [.ref v2, .ref v3, .int (nI q)])), (v2, .inl (G.2.2.1, 100, .inl g)), (v3, .inl (G.2.2.2, 100, .inl h))]) [0, 1, 2, 3, 4, 5] (by decide) rfl).weaken (fun _ _ _ _ => trivial)) hn hq hvd) kc_L_42 ⟨rfl, rfl⟩ ⟨Nat.le_of_ble_eq_true rfl, Nat.le_of_ble_eq_true rfl⟩ (va_recv hK hP (ci := 0) (q0 := 0) rfl rfl) rfl hl.1 rfl (Nat.le_of_ble_eq_true rfl) d_L_law_278 ⟨Nat.le_of_ble_eq_true rfl, Nat.le_of_ble_eq_true rfl⟩) hP hD hS hA [0, 1, 2, 3, 4, 5] [6, 7, 8, 9, 10, 11, 12, 13] [8, 9, 10, 11, 12, 13, 0, 1, 2, 3, 4, 5, 6, 7] rfl rfl ⟨by decide, by decide, by decide⟩ (by decide) rfl rfl (fun H locs hP hD hS => ?_)
        obtain ⟨e1, e2, e3, e4⟩ := tell_old (h := h) (y := 0) hq hv
        rw [e2, e3, e4] at hP hD
        rw [show vdr g q (xs (i + 1)) = (nI q) from by unfold vdr; rw [e1, if_neg (show ¬ (1 : Int32) = 0 by decide), e4]]
        have hP : va_P G.1 classes [(x, .inr (0, [.ref d1, .ref v1, .ref o1, .ref t1, .long ns, .int (nI B)])), (d1, .inr (1, [.ref d2, .long sd, .int k, .int (nI n), .int fb])), (d2, .inl (G.2.1, 16, .inr (.inl f))), (v1, .inr (2, [.ref v2, .ref v3, .int (nI q)])), (v2, .inl (G.2.2.1, 100, .inl g)), (v3, .inl (G.2.2.2, 100, .inl (upd h (vf g (xs (i + 1)) q 0) (vp_nar .boolean 0)))), (o1, .inr (1, [.ref o2, .long sO, .int kO, .int (nI nO), .int bO])), (o2, .inl (G.2.1, 16, .inr (.inl fO))), (t1, .inr (1, [.ref t2, .long sT, .int kT, .int (nI nT), .int bT])), (t2, .inl (G.2.1, 16, .inr (.inl fT))), (mm, .inr (3, [.int 0, .long ns, .long sdM, .int (nI n), .int kM, .int (nI B), .int (nI q), .ref w1, .ref w2, .ref w3])), (w1, .inl (G.2.2.1, 100, .inl g)), (w2, .inl (G.2.2.2, 100, .inl h)), (w3, .inl (G.2.2.1, 10, .inl ink0))] H := hP
        have hD : va_D A [(x, .inr (0, [.ref d1, .ref v1, .ref o1, .ref t1, .long ns, .int (nI B)])), (d1, .inr (1, [.ref d2, .long sd, .int k, .int (nI n), .int fb])), (d2, .inl (G.2.1, 16, .inr (.inl f))), (v1, .inr (2, [.ref v2, .ref v3, .int (nI q)])), (v2, .inl (G.2.2.1, 100, .inl g)), (v3, .inl (G.2.2.2, 100, .inl (upd h (vf g (xs (i + 1)) q 0) (vp_nar .boolean 0)))), (o1, .inr (1, [.ref o2, .long sO, .int kO, .int (nI nO), .int bO])), (o2, .inl (G.2.1, 16, .inr (.inl fO))), (t1, .inr (1, [.ref t2, .long sT, .int kT, .int (nI nT), .int bT])), (t2, .inl (G.2.1, 16, .inr (.inl fT))), (mm, .inr (3, [.int 0, .long ns, .long sdM, .int (nI n), .int kM, .int (nI B), .int (nI q), .ref w1, .ref w2, .ref w3])), (w1, .inl (G.2.2.1, 100, .inl g)), (w2, .inl (G.2.2.2, 100, .inl h)), (w3, .inl (G.2.2.1, 10, .inl ink0))] := hD
        refine lv_aload_n hx hb d_L_law_281 rfl (lv_at hl 2 rfl) ?_
        refine lv_aload_n hx hb d_L_law_282 rfl (lv_at hl 0 rfl) ?_
        refine lv_iload_n hx hb d_L_law_283 rfl (lv_at hl 3 rfl) ?_
        refine lv_iconst (v := 1) hx hb d_L_law_284 (by decide) ?_
        refine lv_iadd hx hb d_L_law_285 ?_
        rw [show nI i + 1 = nI (i + 1) from nI_add i 1]
        refine va_sld hx hb hX hbl hbA hS (i := nI (i + 1)) (vp_in_nI (show (i + 1) < L by omega) (by omega)) d_L_law_286 ?_
        rw [nI_clamp (show (i + 1) < 2 ^ 31 by omega)]
        refine lv_aload_n hx hb d_L_law_287 rfl (lv_at hl 0 rfl) ?_
        refine lv_iload_n hx hb d_L_law_288 rfl (lv_at hl 3 rfl) ?_
        refine lv_iconst (v := 2) hx hb d_L_law_289 (by decide) ?_
        refine lv_iadd hx hb d_L_law_290 ?_
        rw [show nI i + 2 = nI (i + 2) from nI_add i 2]
        refine va_sld hx hb hX hbl hbA hS (i := nI (i + 2)) (vp_in_nI (show (i + 2) < L by omega) (by omega)) d_L_law_291 ?_
        rw [nI_clamp (show (i + 2) < 2 ^ 31 by omega)]
        refine lv_if_eq (tgt := 299) hx hb d_L_law_292 (by decide) (fun c12 => ?_) (fun c12 => ?_)
        · refine lv_iconst (v := 0) hx hb d_L_law_299 (by decide) ?_
          refine mu_i (wr := [(x, .inr (0, [.ref d1, .ref v1, .ref o1, .ref t1, .long ns, .int (nI B)])), (d1, .inr (1, [.ref d2, .long sd, .int k, .int (nI n), .int fb])), (d2, .inl (G.2.1, 16, .inr (.inl f))), (v1, .inr (2, [.ref v2, .ref v3, .int (nI q)])), (v2, .inl (G.2.2.1, 100, .inl g)), (v3, .inl (G.2.2.2, 100, .inl (upd h (vf g (xs (i + 1)) q 0) (vp_nar .boolean 0)))), (o1, .inr (1, [.ref o2, .long sO, .int kO, .int (nI nO), .int bO])), (o2, .inl (G.2.1, 16, .inr (.inl fO))), (t1, .inr (1, [.ref t2, .long sT, .int kT, .int (nI nT), .int bT])), (t2, .inl (G.2.1, 16, .inr (.inl fT)))]) (wn := [(x, .inr (0, [.ref d1, .ref v1, .ref o1, .ref t1, .long ns, .int (nI B)])), (d1, .inr (1, [.ref d2, .long sd, .int k, .int (nI n), .int fb])), (d2, .inl (G.2.1, 16, .inr (.inl f))), (v1, .inr (2, [.ref v2, .ref v3, .int (nI q)])), (v2, .inl (G.2.2.1, 100, .inl g)), (v3, .inl (G.2.2.2, 100, .inl (upd h (vf g (xs (i + 1)) q 0) (vp_nar .boolean 0)))), (o1, .inr (1, [.ref o2, .long sO, .int kO, .int (nI nO), .int bO])), (o2, .inl (G.2.1, 16, .inr (.inl fO))), (t1, .inr (1, [.ref t2, .long sT, .int kT, .int (nI nT), .int bT])), (t2, .inl (G.2.1, 16, .inr (.inl fT))), (mm, .inr (3, [.int 0, .long ns, .long sdM, .int (nI n), .int kM, .int (nI B), .int (nI q), .ref w1, .ref w2, .ref w3])), (w1, .inl (G.2.2.1, 100, .inl (upd g (vf g (xs (i + 1)) q 0) (xs (i + 1))))), (w2, .inl (G.2.2.2, 100, .inl (upd h (vf g (xs (i + 1)) q 0) (vp_nar .boolean 0)))), (w3, .inl (G.2.2.1, 10, .inl ink0))]) (ru_V (b := mm) (As := [.int (xs (i + 1)), .int 0]) (rest := [.int (nI q)]) ⟨hx, hb, hml, hown, ht⟩ hKN (c_M_verdict_old l G _ mm w1 w2 w3 ns sdM n kM (nI B) q g h ink0 (xs (i + 1)) 0 (vf g (xs (i + 1)) q 0) (hP.sub [10, 11, 12, 13] rfl) ((hD.sub (ws' := [(mm, .inr (3, [.int 0, .long ns, .long sdM, .int (nI n), .int kM, .int (nI B), .int (nI q), .ref w1, .ref w2, .ref w3])), (w1, .inl (G.2.2.1, 100, .inl g)), (w2, .inl (G.2.2.2, 100, .inl h)), (w3, .inl (G.2.2.1, 10, .inl ink0))]) [10, 11, 12, 13] (by decide) rfl).weaken (fun _ _ _ _ => trivial)) hn hq hvdM hv hpo) kc_L_46 ⟨rfl, rfl⟩ ⟨Nat.le_of_ble_eq_true rfl, Nat.le_of_ble_eq_true rfl⟩ (va_recv hK hP (ci := 3) (q0 := 10) rfl rfl) rfl hl.1 rfl (Nat.le_of_ble_eq_true rfl) d_L_law_300 ⟨Nat.le_of_ble_eq_true rfl, Nat.le_of_ble_eq_true rfl⟩) hP hD hS hA [10, 11, 12, 13] [0, 1, 2, 3, 4, 5, 6, 7, 8, 9] [0, 1, 2, 3, 4, 5, 6, 7, 8, 9, 10, 11, 12, 13] rfl rfl ⟨by decide, by decide, by decide⟩ (by decide) rfl rfl (fun H locs hP hD hS => ?_)
          rw [upd_same hg] at hP hD
          refine lv_icmp_eq (tgt := 453) hx hb d_L_law_303 (by decide) (fun c13 => ?_) (fun c13 => ?_)
          · exact next H locs ls ⟨d1, d2, v1, v2, v3, o1, t1, sd, k, n, fb, f, g, (upd h (vf g (xs (i + 1)) q 0) (vp_nar .boolean 0)), q, ns, B, o2, sO, kO, nO, bO, fO, t2, sT, kT, nT, bT, fT, w1, w2, w3, sdM, kM, hP, hD, ⟨hn, hq, hd, hz, hB, hk⟩, hnO, hnT⟩ hS (lv_sub hl [0, 1, 2, 3] rfl)
          · exact absurd rfl c13
        · exact absurd c11 c12
      · refine lv_iconst (v := 1) hx hb d_L_law_273 (by decide) ?_
        refine lv_goto (tgt := 278) hx hb d_L_law_274 (by decide) ?_
        refine mu_i (wr := [(o1, .inr (1, [.ref o2, .long sO, .int kO, .int (nI nO), .int bO])), (o2, .inl (G.2.1, 16, .inr (.inl fO))), (t1, .inr (1, [.ref t2, .long sT, .int kT, .int (nI nT), .int bT])), (t2, .inl (G.2.1, 16, .inr (.inl fT))), (mm, .inr (3, [.int 0, .long ns, .long sdM, .int (nI n), .int kM, .int (nI B), .int (nI q), .ref w1, .ref w2, .ref w3])), (w1, .inl (G.2.2.1, 100, .inl g)), (w2, .inl (G.2.2.2, 100, .inl h)), (w3, .inl (G.2.2.1, 10, .inl ink0))]) (wn := [(x, .inr (0, [.ref d1, .ref v1, .ref o1, .ref t1, .long ns, .int (nI B)])), (d1, .inr (1, [.ref d2, .long sd, .int k, .int (nI n), .int fb])), (d2, .inl (G.2.1, 16, .inr (.inl f))), (v1, .inr (2, [.ref v2, .ref v3, .int (nI (tln g q (xs (i + 1))))])), (v2, .inl (G.2.2.1, 100, .inl (tlg g q (xs (i + 1))))), (v3, .inl (G.2.2.2, 100, .inl (tlh g h q (xs (i + 1)) 1))), (o1, .inr (1, [.ref o2, .long sO, .int kO, .int (nI nO), .int bO])), (o2, .inl (G.2.1, 16, .inr (.inl fO))), (t1, .inr (1, [.ref t2, .long sT, .int kT, .int (nI nT), .int bT])), (t2, .inl (G.2.1, 16, .inr (.inl fT))), (mm, .inr (3, [.int 0, .long ns, .long sdM, .int (nI n), .int kM, .int (nI B), .int (nI q), .ref w1, .ref w2, .ref w3])), (w1, .inl (G.2.2.1, 100, .inl g)), (w2, .inl (G.2.2.2, 100, .inl h)), (w3, .inl (G.2.2.1, 10, .inl ink0))]) (ru_V (b := x) (As := [.int (xs (i + 1)), .int 1]) (rest := []) ⟨hx, hb, hml, hown, ht⟩ hKN (c_P_verdict l G _ x d1 d2 v1 v2 v3 o1 t1 sd k n fb f g h q ns (nI B) (xs (i + 1)) 1 (hP.sub [0, 1, 2, 3, 4, 5] rfl) ((hD.sub (ws' := [(x, .inr (0, [.ref d1, .ref v1, .ref o1, .ref t1, .long ns, .int (nI B)])), (d1, .inr (1, [.ref d2, .long sd, .int k, .int (nI n), .int fb])), (d2, .inl (G.2.1, 16, .inr (.inl f))), (v1, .inr (2, [.ref v2, .ref v3, .int (nI q)])), (v2, .inl (G.2.2.1, 100, .inl g)), (v3, .inl (G.2.2.2, 100, .inl h))]) [0, 1, 2, 3, 4, 5] (by decide) rfl).weaken (fun _ _ _ _ => trivial)) hn hq hvd) kc_L_42 ⟨rfl, rfl⟩ ⟨Nat.le_of_ble_eq_true rfl, Nat.le_of_ble_eq_true rfl⟩ (va_recv hK hP (ci := 0) (q0 := 0) rfl rfl) rfl hl.1 rfl (Nat.le_of_ble_eq_true rfl) d_L_law_278 ⟨Nat.le_of_ble_eq_true rfl, Nat.le_of_ble_eq_true rfl⟩) hP hD hS hA [0, 1, 2, 3, 4, 5] [6, 7, 8, 9, 10, 11, 12, 13] [8, 9, 10, 11, 12, 13, 0, 1, 2, 3, 4, 5, 6, 7] rfl rfl ⟨by decide, by decide, by decide⟩ (by decide) rfl rfl (fun H locs hP hD hS => ?_)
        obtain ⟨e1, e2, e3, e4⟩ := tell_old (h := h) (y := 1) hq hv
        rw [e2, e3, e4] at hP hD
        rw [show vdr g q (xs (i + 1)) = (nI q) from by unfold vdr; rw [e1, if_neg (show ¬ (1 : Int32) = 0 by decide), e4]]
        have hP : va_P G.1 classes [(x, .inr (0, [.ref d1, .ref v1, .ref o1, .ref t1, .long ns, .int (nI B)])), (d1, .inr (1, [.ref d2, .long sd, .int k, .int (nI n), .int fb])), (d2, .inl (G.2.1, 16, .inr (.inl f))), (v1, .inr (2, [.ref v2, .ref v3, .int (nI q)])), (v2, .inl (G.2.2.1, 100, .inl g)), (v3, .inl (G.2.2.2, 100, .inl (upd h (vf g (xs (i + 1)) q 0) (vp_nar .boolean 1)))), (o1, .inr (1, [.ref o2, .long sO, .int kO, .int (nI nO), .int bO])), (o2, .inl (G.2.1, 16, .inr (.inl fO))), (t1, .inr (1, [.ref t2, .long sT, .int kT, .int (nI nT), .int bT])), (t2, .inl (G.2.1, 16, .inr (.inl fT))), (mm, .inr (3, [.int 0, .long ns, .long sdM, .int (nI n), .int kM, .int (nI B), .int (nI q), .ref w1, .ref w2, .ref w3])), (w1, .inl (G.2.2.1, 100, .inl g)), (w2, .inl (G.2.2.2, 100, .inl h)), (w3, .inl (G.2.2.1, 10, .inl ink0))] H := hP
        have hD : va_D A [(x, .inr (0, [.ref d1, .ref v1, .ref o1, .ref t1, .long ns, .int (nI B)])), (d1, .inr (1, [.ref d2, .long sd, .int k, .int (nI n), .int fb])), (d2, .inl (G.2.1, 16, .inr (.inl f))), (v1, .inr (2, [.ref v2, .ref v3, .int (nI q)])), (v2, .inl (G.2.2.1, 100, .inl g)), (v3, .inl (G.2.2.2, 100, .inl (upd h (vf g (xs (i + 1)) q 0) (vp_nar .boolean 1)))), (o1, .inr (1, [.ref o2, .long sO, .int kO, .int (nI nO), .int bO])), (o2, .inl (G.2.1, 16, .inr (.inl fO))), (t1, .inr (1, [.ref t2, .long sT, .int kT, .int (nI nT), .int bT])), (t2, .inl (G.2.1, 16, .inr (.inl fT))), (mm, .inr (3, [.int 0, .long ns, .long sdM, .int (nI n), .int kM, .int (nI B), .int (nI q), .ref w1, .ref w2, .ref w3])), (w1, .inl (G.2.2.1, 100, .inl g)), (w2, .inl (G.2.2.2, 100, .inl h)), (w3, .inl (G.2.2.1, 10, .inl ink0))] := hD
        refine lv_aload_n hx hb d_L_law_281 rfl (lv_at hl 2 rfl) ?_
        refine lv_aload_n hx hb d_L_law_282 rfl (lv_at hl 0 rfl) ?_
        refine lv_iload_n hx hb d_L_law_283 rfl (lv_at hl 3 rfl) ?_
        refine lv_iconst (v := 1) hx hb d_L_law_284 (by decide) ?_
        refine lv_iadd hx hb d_L_law_285 ?_
        rw [show nI i + 1 = nI (i + 1) from nI_add i 1]
        refine va_sld hx hb hX hbl hbA hS (i := nI (i + 1)) (vp_in_nI (show (i + 1) < L by omega) (by omega)) d_L_law_286 ?_
        rw [nI_clamp (show (i + 1) < 2 ^ 31 by omega)]
        refine lv_aload_n hx hb d_L_law_287 rfl (lv_at hl 0 rfl) ?_
        refine lv_iload_n hx hb d_L_law_288 rfl (lv_at hl 3 rfl) ?_
        refine lv_iconst (v := 2) hx hb d_L_law_289 (by decide) ?_
        refine lv_iadd hx hb d_L_law_290 ?_
        rw [show nI i + 2 = nI (i + 2) from nI_add i 2]
        refine va_sld hx hb hX hbl hbA hS (i := nI (i + 2)) (vp_in_nI (show (i + 2) < L by omega) (by omega)) d_L_law_291 ?_
        rw [nI_clamp (show (i + 2) < 2 ^ 31 by omega)]
        refine lv_if_eq (tgt := 299) hx hb d_L_law_292 (by decide) (fun c14 => ?_) (fun c14 => ?_)
        · exact absurd c14 c11
        · refine lv_iconst (v := 1) hx hb d_L_law_295 (by decide) ?_
          refine lv_goto (tgt := 300) hx hb d_L_law_296 (by decide) ?_
          refine mu_i (wr := [(x, .inr (0, [.ref d1, .ref v1, .ref o1, .ref t1, .long ns, .int (nI B)])), (d1, .inr (1, [.ref d2, .long sd, .int k, .int (nI n), .int fb])), (d2, .inl (G.2.1, 16, .inr (.inl f))), (v1, .inr (2, [.ref v2, .ref v3, .int (nI q)])), (v2, .inl (G.2.2.1, 100, .inl g)), (v3, .inl (G.2.2.2, 100, .inl (upd h (vf g (xs (i + 1)) q 0) (vp_nar .boolean 1)))), (o1, .inr (1, [.ref o2, .long sO, .int kO, .int (nI nO), .int bO])), (o2, .inl (G.2.1, 16, .inr (.inl fO))), (t1, .inr (1, [.ref t2, .long sT, .int kT, .int (nI nT), .int bT])), (t2, .inl (G.2.1, 16, .inr (.inl fT)))]) (wn := [(x, .inr (0, [.ref d1, .ref v1, .ref o1, .ref t1, .long ns, .int (nI B)])), (d1, .inr (1, [.ref d2, .long sd, .int k, .int (nI n), .int fb])), (d2, .inl (G.2.1, 16, .inr (.inl f))), (v1, .inr (2, [.ref v2, .ref v3, .int (nI q)])), (v2, .inl (G.2.2.1, 100, .inl g)), (v3, .inl (G.2.2.2, 100, .inl (upd h (vf g (xs (i + 1)) q 0) (vp_nar .boolean 1)))), (o1, .inr (1, [.ref o2, .long sO, .int kO, .int (nI nO), .int bO])), (o2, .inl (G.2.1, 16, .inr (.inl fO))), (t1, .inr (1, [.ref t2, .long sT, .int kT, .int (nI nT), .int bT])), (t2, .inl (G.2.1, 16, .inr (.inl fT))), (mm, .inr (3, [.int 0, .long ns, .long sdM, .int (nI n), .int kM, .int (nI B), .int (nI q), .ref w1, .ref w2, .ref w3])), (w1, .inl (G.2.2.1, 100, .inl (upd g (vf g (xs (i + 1)) q 0) (xs (i + 1))))), (w2, .inl (G.2.2.2, 100, .inl (upd h (vf g (xs (i + 1)) q 0) (vp_nar .boolean 1)))), (w3, .inl (G.2.2.1, 10, .inl ink0))]) (ru_V (b := mm) (As := [.int (xs (i + 1)), .int 1]) (rest := [.int (nI q)]) ⟨hx, hb, hml, hown, ht⟩ hKN (c_M_verdict_old l G _ mm w1 w2 w3 ns sdM n kM (nI B) q g h ink0 (xs (i + 1)) 1 (vf g (xs (i + 1)) q 0) (hP.sub [10, 11, 12, 13] rfl) ((hD.sub (ws' := [(mm, .inr (3, [.int 0, .long ns, .long sdM, .int (nI n), .int kM, .int (nI B), .int (nI q), .ref w1, .ref w2, .ref w3])), (w1, .inl (G.2.2.1, 100, .inl g)), (w2, .inl (G.2.2.2, 100, .inl h)), (w3, .inl (G.2.2.1, 10, .inl ink0))]) [10, 11, 12, 13] (by decide) rfl).weaken (fun _ _ _ _ => trivial)) hn hq hvdM hv hpo) kc_L_46 ⟨rfl, rfl⟩ ⟨Nat.le_of_ble_eq_true rfl, Nat.le_of_ble_eq_true rfl⟩ (va_recv hK hP (ci := 3) (q0 := 10) rfl rfl) rfl hl.1 rfl (Nat.le_of_ble_eq_true rfl) d_L_law_300 ⟨Nat.le_of_ble_eq_true rfl, Nat.le_of_ble_eq_true rfl⟩) hP hD hS hA [10, 11, 12, 13] [0, 1, 2, 3, 4, 5, 6, 7, 8, 9] [0, 1, 2, 3, 4, 5, 6, 7, 8, 9, 10, 11, 12, 13] rfl rfl ⟨by decide, by decide, by decide⟩ (by decide) rfl rfl (fun H locs hP hD hS => ?_)
          rw [upd_same hg] at hP hD
          refine lv_icmp_eq (tgt := 453) hx hb d_L_law_303 (by decide) (fun c15 => ?_) (fun c15 => ?_)
          · exact next H locs ls ⟨d1, d2, v1, v2, v3, o1, t1, sd, k, n, fb, f, g, (upd h (vf g (xs (i + 1)) q 0) (vp_nar .boolean 1)), q, ns, B, o2, sO, kO, nO, bO, fO, t2, sT, kT, nT, bT, fT, w1, w2, w3, sdM, kM, hP, hD, ⟨hn, hq, hd, hz, hB, hk⟩, hnO, hnT⟩ hS (lv_sub hl [0, 1, 2, 3] rfl)
          · exact absurd rfl c15
  · have hvdM : ¬ mvd n (xs (i + 1)) = 0 := by rw [vd_eq hn]; exact hvd
    refine lv_aload_n hx hb d_L_law_259 rfl (lv_at hl 1 rfl) ?_
    refine lv_aload_n hx hb d_L_law_260 rfl (lv_at hl 0 rfl) ?_
    refine lv_iload_n hx hb d_L_law_261 rfl (lv_at hl 3 rfl) ?_
    refine lv_iconst (v := 1) hx hb d_L_law_262 (by decide) ?_
    refine lv_iadd hx hb d_L_law_263 ?_
    rw [show nI i + 1 = nI (i + 1) from nI_add i 1]
    refine va_sld hx hb hX hbl hbA hS (i := nI (i + 1)) (vp_in_nI (show (i + 1) < L by omega) (by omega)) d_L_law_264 ?_
    rw [nI_clamp (show (i + 1) < 2 ^ 31 by omega)]
    refine lv_aload_n hx hb d_L_law_265 rfl (lv_at hl 0 rfl) ?_
    refine lv_iload_n hx hb d_L_law_266 rfl (lv_at hl 3 rfl) ?_
    refine lv_iconst (v := 2) hx hb d_L_law_267 (by decide) ?_
    refine lv_iadd hx hb d_L_law_268 ?_
    rw [show nI i + 2 = nI (i + 2) from nI_add i 2]
    refine va_sld hx hb hX hbl hbA hS (i := nI (i + 2)) (vp_in_nI (show (i + 2) < L by omega) (by omega)) d_L_law_269 ?_
    rw [nI_clamp (show (i + 2) < 2 ^ 31 by omega)]
    refine lv_if_eq (tgt := 277) hx hb d_L_law_270 (by decide) (fun c16 => ?_) (fun c16 => ?_)
    · refine lv_iconst (v := 0) hx hb d_L_law_277 (by decide) ?_
      refine pr_i (ru_V (b := x) (As := [.int (xs (i + 1)), .int 0]) (rest := []) ⟨hx, hb, hml, hown, ht⟩ hKN (c_P_verdict_no l G _ x d1 d2 v1 v2 v3 o1 t1 sd k n fb f g h q ns (nI B) (xs (i + 1)) 0 (hP.sub [0, 1, 2, 3, 4, 5] rfl) hn hq hvd) kc_L_42 ⟨rfl, rfl⟩ ⟨Nat.le_of_ble_eq_true rfl, Nat.le_of_ble_eq_true rfl⟩ (va_recv hK hP (ci := 0) (q0 := 0) rfl rfl) rfl hl.1 rfl (Nat.le_of_ble_eq_true rfl) d_L_law_278 ⟨Nat.le_of_ble_eq_true rfl, Nat.le_of_ble_eq_true rfl⟩) ?_
      refine lv_aload_n hx hb d_L_law_281 rfl (lv_at hl 2 rfl) ?_
      refine lv_aload_n hx hb d_L_law_282 rfl (lv_at hl 0 rfl) ?_
      refine lv_iload_n hx hb d_L_law_283 rfl (lv_at hl 3 rfl) ?_
      refine lv_iconst (v := 1) hx hb d_L_law_284 (by decide) ?_
      refine lv_iadd hx hb d_L_law_285 ?_
      rw [show nI i + 1 = nI (i + 1) from nI_add i 1]
      refine va_sld hx hb hX hbl hbA hS (i := nI (i + 1)) (vp_in_nI (show (i + 1) < L by omega) (by omega)) d_L_law_286 ?_
      rw [nI_clamp (show (i + 1) < 2 ^ 31 by omega)]
      refine lv_aload_n hx hb d_L_law_287 rfl (lv_at hl 0 rfl) ?_
      refine lv_iload_n hx hb d_L_law_288 rfl (lv_at hl 3 rfl) ?_
      refine lv_iconst (v := 2) hx hb d_L_law_289 (by decide) ?_
      refine lv_iadd hx hb d_L_law_290 ?_
      rw [show nI i + 2 = nI (i + 2) from nI_add i 2]
      refine va_sld hx hb hX hbl hbA hS (i := nI (i + 2)) (vp_in_nI (show (i + 2) < L by omega) (by omega)) d_L_law_291 ?_
      rw [nI_clamp (show (i + 2) < 2 ^ 31 by omega)]
      refine lv_if_eq (tgt := 299) hx hb d_L_law_292 (by decide) (fun c17 => ?_) (fun c17 => ?_)
      · refine lv_iconst (v := 0) hx hb d_L_law_299 (by decide) ?_
        refine mu_i (wr := [(x, .inr (0, [.ref d1, .ref v1, .ref o1, .ref t1, .long ns, .int (nI B)])), (d1, .inr (1, [.ref d2, .long sd, .int k, .int (nI n), .int fb])), (d2, .inl (G.2.1, 16, .inr (.inl f))), (v1, .inr (2, [.ref v2, .ref v3, .int (nI q)])), (v2, .inl (G.2.2.1, 100, .inl g)), (v3, .inl (G.2.2.2, 100, .inl h)), (o1, .inr (1, [.ref o2, .long sO, .int kO, .int (nI nO), .int bO])), (o2, .inl (G.2.1, 16, .inr (.inl fO))), (t1, .inr (1, [.ref t2, .long sT, .int kT, .int (nI nT), .int bT])), (t2, .inl (G.2.1, 16, .inr (.inl fT)))]) (wn := [(x, .inr (0, [.ref d1, .ref v1, .ref o1, .ref t1, .long ns, .int (nI B)])), (d1, .inr (1, [.ref d2, .long sd, .int k, .int (nI n), .int fb])), (d2, .inl (G.2.1, 16, .inr (.inl f))), (v1, .inr (2, [.ref v2, .ref v3, .int (nI q)])), (v2, .inl (G.2.2.1, 100, .inl g)), (v3, .inl (G.2.2.2, 100, .inl h)), (o1, .inr (1, [.ref o2, .long sO, .int kO, .int (nI nO), .int bO])), (o2, .inl (G.2.1, 16, .inr (.inl fO))), (t1, .inr (1, [.ref t2, .long sT, .int kT, .int (nI nT), .int bT])), (t2, .inl (G.2.1, 16, .inr (.inl fT))), (mm, .inr (3, [.int 0, .long ns, .long sdM, .int (nI n), .int kM, .int (nI B), .int (nI q), .ref w1, .ref w2, .ref w3])), (w1, .inl (G.2.2.1, 100, .inl g)), (w2, .inl (G.2.2.2, 100, .inl h)), (w3, .inl (G.2.2.1, 10, .inl ink0))]) (ru_V (b := mm) (As := [.int (xs (i + 1)), .int 0]) (rest := [.int (vdc n (xs (i + 1)))]) ⟨hx, hb, hml, hown, ht⟩ hKN (c_M_verdict_no l G _ mm w1 w2 w3 ns sdM n kM (nI B) q g h ink0 (xs (i + 1)) 0 (hP.sub [10, 11, 12, 13] rfl) ((hD.sub (ws' := [(mm, .inr (3, [.int 0, .long ns, .long sdM, .int (nI n), .int kM, .int (nI B), .int (nI q), .ref w1, .ref w2, .ref w3])), (w1, .inl (G.2.2.1, 100, .inl g)), (w2, .inl (G.2.2.2, 100, .inl h)), (w3, .inl (G.2.2.1, 10, .inl ink0))]) [10, 11, 12, 13] (by decide) rfl).weaken (fun _ _ _ _ => trivial)) hn hq hvdM) kc_L_46 ⟨rfl, rfl⟩ ⟨Nat.le_of_ble_eq_true rfl, Nat.le_of_ble_eq_true rfl⟩ (va_recv hK hP (ci := 3) (q0 := 10) rfl rfl) rfl hl.1 rfl (Nat.le_of_ble_eq_true rfl) d_L_law_300 ⟨Nat.le_of_ble_eq_true rfl, Nat.le_of_ble_eq_true rfl⟩) hP hD hS hA [10, 11, 12, 13] [0, 1, 2, 3, 4, 5, 6, 7, 8, 9] [0, 1, 2, 3, 4, 5, 6, 7, 8, 9, 10, 11, 12, 13] rfl rfl ⟨by decide, by decide, by decide⟩ (by decide) rfl rfl (fun H locs hP hD hS => ?_)
        refine lv_icmp_eq (tgt := 453) hx hb d_L_law_303 (by decide) (fun c18 => ?_) (fun c18 => ?_)
        · exact next H locs ls ⟨d1, d2, v1, v2, v3, o1, t1, sd, k, n, fb, f, g, h, q, ns, B, o2, sO, kO, nO, bO, fO, t2, sT, kT, nT, bT, fT, w1, w2, w3, sdM, kM, hP, hD, hR, hnO, hnT⟩ hS (lv_sub hl [0, 1, 2, 3] rfl)
        · exact absurd (vd_eq hn (xs (i + 1))).symm c18
      · exact absurd c16 c17
    · refine lv_iconst (v := 1) hx hb d_L_law_273 (by decide) ?_
      refine lv_goto (tgt := 278) hx hb d_L_law_274 (by decide) ?_
      refine pr_i (ru_V (b := x) (As := [.int (xs (i + 1)), .int 1]) (rest := []) ⟨hx, hb, hml, hown, ht⟩ hKN (c_P_verdict_no l G _ x d1 d2 v1 v2 v3 o1 t1 sd k n fb f g h q ns (nI B) (xs (i + 1)) 1 (hP.sub [0, 1, 2, 3, 4, 5] rfl) hn hq hvd) kc_L_42 ⟨rfl, rfl⟩ ⟨Nat.le_of_ble_eq_true rfl, Nat.le_of_ble_eq_true rfl⟩ (va_recv hK hP (ci := 0) (q0 := 0) rfl rfl) rfl hl.1 rfl (Nat.le_of_ble_eq_true rfl) d_L_law_278 ⟨Nat.le_of_ble_eq_true rfl, Nat.le_of_ble_eq_true rfl⟩) ?_
      refine lv_aload_n hx hb d_L_law_281 rfl (lv_at hl 2 rfl) ?_
      refine lv_aload_n hx hb d_L_law_282 rfl (lv_at hl 0 rfl) ?_
      refine lv_iload_n hx hb d_L_law_283 rfl (lv_at hl 3 rfl) ?_
      refine lv_iconst (v := 1) hx hb d_L_law_284 (by decide) ?_
      refine lv_iadd hx hb d_L_law_285 ?_
      rw [show nI i + 1 = nI (i + 1) from nI_add i 1]
      refine va_sld hx hb hX hbl hbA hS (i := nI (i + 1)) (vp_in_nI (show (i + 1) < L by omega) (by omega)) d_L_law_286 ?_
      rw [nI_clamp (show (i + 1) < 2 ^ 31 by omega)]
      refine lv_aload_n hx hb d_L_law_287 rfl (lv_at hl 0 rfl) ?_
      refine lv_iload_n hx hb d_L_law_288 rfl (lv_at hl 3 rfl) ?_
      refine lv_iconst (v := 2) hx hb d_L_law_289 (by decide) ?_
      refine lv_iadd hx hb d_L_law_290 ?_
      rw [show nI i + 2 = nI (i + 2) from nI_add i 2]
      refine va_sld hx hb hX hbl hbA hS (i := nI (i + 2)) (vp_in_nI (show (i + 2) < L by omega) (by omega)) d_L_law_291 ?_
      rw [nI_clamp (show (i + 2) < 2 ^ 31 by omega)]
      refine lv_if_eq (tgt := 299) hx hb d_L_law_292 (by decide) (fun c19 => ?_) (fun c19 => ?_)
      · exact absurd c19 c16
      · refine lv_iconst (v := 1) hx hb d_L_law_295 (by decide) ?_
        refine lv_goto (tgt := 300) hx hb d_L_law_296 (by decide) ?_
        refine mu_i (wr := [(x, .inr (0, [.ref d1, .ref v1, .ref o1, .ref t1, .long ns, .int (nI B)])), (d1, .inr (1, [.ref d2, .long sd, .int k, .int (nI n), .int fb])), (d2, .inl (G.2.1, 16, .inr (.inl f))), (v1, .inr (2, [.ref v2, .ref v3, .int (nI q)])), (v2, .inl (G.2.2.1, 100, .inl g)), (v3, .inl (G.2.2.2, 100, .inl h)), (o1, .inr (1, [.ref o2, .long sO, .int kO, .int (nI nO), .int bO])), (o2, .inl (G.2.1, 16, .inr (.inl fO))), (t1, .inr (1, [.ref t2, .long sT, .int kT, .int (nI nT), .int bT])), (t2, .inl (G.2.1, 16, .inr (.inl fT)))]) (wn := [(x, .inr (0, [.ref d1, .ref v1, .ref o1, .ref t1, .long ns, .int (nI B)])), (d1, .inr (1, [.ref d2, .long sd, .int k, .int (nI n), .int fb])), (d2, .inl (G.2.1, 16, .inr (.inl f))), (v1, .inr (2, [.ref v2, .ref v3, .int (nI q)])), (v2, .inl (G.2.2.1, 100, .inl g)), (v3, .inl (G.2.2.2, 100, .inl h)), (o1, .inr (1, [.ref o2, .long sO, .int kO, .int (nI nO), .int bO])), (o2, .inl (G.2.1, 16, .inr (.inl fO))), (t1, .inr (1, [.ref t2, .long sT, .int kT, .int (nI nT), .int bT])), (t2, .inl (G.2.1, 16, .inr (.inl fT))), (mm, .inr (3, [.int 0, .long ns, .long sdM, .int (nI n), .int kM, .int (nI B), .int (nI q), .ref w1, .ref w2, .ref w3])), (w1, .inl (G.2.2.1, 100, .inl g)), (w2, .inl (G.2.2.2, 100, .inl h)), (w3, .inl (G.2.2.1, 10, .inl ink0))]) (ru_V (b := mm) (As := [.int (xs (i + 1)), .int 1]) (rest := [.int (vdc n (xs (i + 1)))]) ⟨hx, hb, hml, hown, ht⟩ hKN (c_M_verdict_no l G _ mm w1 w2 w3 ns sdM n kM (nI B) q g h ink0 (xs (i + 1)) 1 (hP.sub [10, 11, 12, 13] rfl) ((hD.sub (ws' := [(mm, .inr (3, [.int 0, .long ns, .long sdM, .int (nI n), .int kM, .int (nI B), .int (nI q), .ref w1, .ref w2, .ref w3])), (w1, .inl (G.2.2.1, 100, .inl g)), (w2, .inl (G.2.2.2, 100, .inl h)), (w3, .inl (G.2.2.1, 10, .inl ink0))]) [10, 11, 12, 13] (by decide) rfl).weaken (fun _ _ _ _ => trivial)) hn hq hvdM) kc_L_46 ⟨rfl, rfl⟩ ⟨Nat.le_of_ble_eq_true rfl, Nat.le_of_ble_eq_true rfl⟩ (va_recv hK hP (ci := 3) (q0 := 10) rfl rfl) rfl hl.1 rfl (Nat.le_of_ble_eq_true rfl) d_L_law_300 ⟨Nat.le_of_ble_eq_true rfl, Nat.le_of_ble_eq_true rfl⟩) hP hD hS hA [10, 11, 12, 13] [0, 1, 2, 3, 4, 5, 6, 7, 8, 9] [0, 1, 2, 3, 4, 5, 6, 7, 8, 9, 10, 11, 12, 13] rfl rfl ⟨by decide, by decide, by decide⟩ (by decide) rfl rfl (fun H locs hP hD hS => ?_)
        refine lv_icmp_eq (tgt := 453) hx hb d_L_law_303 (by decide) (fun c20 => ?_) (fun c20 => ?_)
        · exact next H locs ls ⟨d1, d2, v1, v2, v3, o1, t1, sd, k, n, fb, f, g, h, q, ns, B, o2, sO, kO, nO, bO, fO, t2, sT, kT, nT, bT, fT, w1, w2, w3, sdM, kM, hP, hD, hR, hnO, hnT⟩ hS (lv_sub hl [0, 1, 2, 3] rfl)
        · exact absurd (vd_eq hn (xs (i + 1))).symm c20
set_option maxHeartbeats 4000000 in
set_option maxRecDepth 100000 in
theorem law_case5 {p : Program} {l : Launch} {e : Env} {s : State} {m : MethodId} {below : List Frame} {meth : Method} {c : Code} {b L : Nat} {xs : Nat → Int32} {G : GT} {A : Nat → Prop} {tt : Nat} (hL : L ≤ 2561) (C : LC p s m meth c b L xs G A tt) {i x mm : Nat} (hi : i + 5 ≤ L) {H : Heap} {locs : List Loc} {ls : Array Slot} (hW : Wd G A x mm H) (hS : va_S A s.heap H locs) (hl : lv_has ls 4 [(0, .ref b), (1, .ref x), (2, .ref mm), (3, .int (nI i))])
    (next : ∀ (H : Heap) (locs : List Loc) (ls : Array Slot), Wd G A x mm H → va_S A s.heap H locs → lv_has ls 4 [(0, .ref b), (1, .ref x), (2, .ref mm), (3, .int (nI i))] → W p l e room_1 s m #[Value.ref b] below meth c H locs 14 492 (lw_Z below #[Value.ref b] s) (F0 m 453 ls [])) : W p l e room_1 s m #[Value.ref b] below meth c H locs 14 492 (lw_Z below #[Value.ref b] s) (F0 m 308 ls []) := by
  obtain ⟨hx, hb, hr, hml, hown, ht, hKN, hX, hbl, hlocks, hA, hbA, hZ, hT⟩ := C
  have hK := hKN.1
  obtain ⟨d1, d2, v1, v2, v3, o1, t1, sd, k, n, fb, f, g, h, q, ns, B, o2, sO, kO, nO, bO, fO, t2, sT, kT, nT, bT, fT, w1, w2, w3, sdM, kM, hP, hD, hR, hnO, hnT⟩ := hW
  obtain ⟨hn, hq, hd, hz, hB, hk⟩ := id hR
  by_cases hE : n = 0
  · have hE1 : ¬ fn_D_isEmpty n = 0 := fun z => (empty_iff hn).mp z hE
    have hE2 : nI n = 0 := by rw [hE]; rfl
    refine lv_aload_n hx hb d_L_law_308 rfl (lv_at hl 1 rfl) ?_
    refine pr_i (ru_V (b := x) (As := []) (rest := []) ⟨hx, hb, hml, hown, ht⟩ hKN (c_P_shorter_no l G _ x d1 d2 v1 v2 v3 o1 t1 sd k n fb f g h q ns (nI B) (hP.sub [0, 1, 2, 3, 4, 5] rfl) hn hq hE1) kc_L_47 ⟨rfl, rfl⟩ ⟨Nat.le_of_ble_eq_true rfl, Nat.le_of_ble_eq_true rfl⟩ (va_recv hK hP (ci := 0) (q0 := 0) rfl rfl) rfl hl.1 rfl (Nat.le_of_ble_eq_true rfl) d_L_law_309 ⟨Nat.le_of_ble_eq_true rfl, Nat.le_of_ble_eq_true rfl⟩) ?_
    refine lv_aload_n hx hb d_L_law_312 rfl (lv_at hl 2 rfl) ?_
    refine mu_i (wr := [(x, .inr (0, [.ref d1, .ref v1, .ref o1, .ref t1, .long ns, .int (nI B)])), (d1, .inr (1, [.ref d2, .long sd, .int k, .int (nI n), .int fb])), (d2, .inl (G.2.1, 16, .inr (.inl f))), (v1, .inr (2, [.ref v2, .ref v3, .int (nI q)])), (v2, .inl (G.2.2.1, 100, .inl g)), (v3, .inl (G.2.2.2, 100, .inl h)), (o1, .inr (1, [.ref o2, .long sO, .int kO, .int (nI nO), .int bO])), (o2, .inl (G.2.1, 16, .inr (.inl fO))), (t1, .inr (1, [.ref t2, .long sT, .int kT, .int (nI nT), .int bT])), (t2, .inl (G.2.1, 16, .inr (.inl fT)))]) (wn := [(x, .inr (0, [.ref d1, .ref v1, .ref o1, .ref t1, .long ns, .int (nI B)])), (d1, .inr (1, [.ref d2, .long sd, .int k, .int (nI n), .int fb])), (d2, .inl (G.2.1, 16, .inr (.inl f))), (v1, .inr (2, [.ref v2, .ref v3, .int (nI q)])), (v2, .inl (G.2.2.1, 100, .inl g)), (v3, .inl (G.2.2.2, 100, .inl h)), (o1, .inr (1, [.ref o2, .long sO, .int kO, .int (nI nO), .int bO])), (o2, .inl (G.2.1, 16, .inr (.inl fO))), (t1, .inr (1, [.ref t2, .long sT, .int kT, .int (nI nT), .int bT])), (t2, .inl (G.2.1, 16, .inr (.inl fT))), (mm, .inr (3, [.int 0, .long ns, .long sdM, .int (nI n), .int kM, .int (nI B), .int (nI q), .ref w1, .ref w2, .ref w3])), (w1, .inl (G.2.2.1, 100, .inl g)), (w2, .inl (G.2.2.2, 100, .inl h)), (w3, .inl (G.2.2.1, 10, .inl ink0))]) (ru_V (b := mm) (As := []) (rest := [.int (-13)]) ⟨hx, hb, hml, hown, ht⟩ hKN (c_M_shorter_no l G _ mm w1 w2 w3 ns sdM n kM (nI B) q g h ink0 (hP.sub [10, 11, 12, 13] rfl) ((hD.sub (ws' := [(mm, .inr (3, [.int 0, .long ns, .long sdM, .int (nI n), .int kM, .int (nI B), .int (nI q), .ref w1, .ref w2, .ref w3])), (w1, .inl (G.2.2.1, 100, .inl g)), (w2, .inl (G.2.2.2, 100, .inl h)), (w3, .inl (G.2.2.1, 10, .inl ink0))]) [10, 11, 12, 13] (by decide) rfl).weaken (fun _ _ _ _ => trivial)) hn hq hE2) kc_L_51 ⟨rfl, rfl⟩ ⟨Nat.le_of_ble_eq_true rfl, Nat.le_of_ble_eq_true rfl⟩ (va_recv hK hP (ci := 3) (q0 := 10) rfl rfl) rfl hl.1 rfl (Nat.le_of_ble_eq_true rfl) d_L_law_313 ⟨Nat.le_of_ble_eq_true rfl, Nat.le_of_ble_eq_true rfl⟩) hP hD hS hA [10, 11, 12, 13] [0, 1, 2, 3, 4, 5, 6, 7, 8, 9] [0, 1, 2, 3, 4, 5, 6, 7, 8, 9, 10, 11, 12, 13] rfl rfl ⟨by decide, by decide, by decide⟩ (by decide) rfl rfl (fun H locs hP hD hS => ?_)
    refine lv_icmp_eq (tgt := 453) hx hb d_L_law_316 (by decide) (fun _ => ?_) (fun c1 => absurd (by decide) c1)
    exact next H locs ls ⟨d1, d2, v1, v2, v3, o1, t1, sd, k, n, fb, f, g, h, q, ns, B, o2, sO, kO, nO, bO, fO, t2, sT, kT, nT, bT, fT, w1, w2, w3, sdM, kM, hP, hD, hR, hnO, hnT⟩ hS (lv_sub hl [0, 1, 2, 3] rfl)
  · have hE1 : fn_D_isEmpty n = 0 := (empty_iff hn).mpr hE
    have hE2 : ¬ nI n = 0 := nI_ne0 (by omega) (by omega)
    obtain ⟨t0, B2, hB2, es1, es2⟩ := sh_eq (h := h) hn hq hd hz
    have h6 := pw16' hn
    refine lv_aload_n hx hb d_L_law_308 rfl (lv_at hl 1 rfl) ?_
    refine mu_i (wr := [(o1, .inr (1, [.ref o2, .long sO, .int kO, .int (nI nO), .int bO])), (o2, .inl (G.2.1, 16, .inr (.inl fO))), (t1, .inr (1, [.ref t2, .long sT, .int kT, .int (nI nT), .int bT])), (t2, .inl (G.2.1, 16, .inr (.inl fT))), (mm, .inr (3, [.int 0, .long ns, .long sdM, .int (nI n), .int kM, .int (nI B), .int (nI q), .ref w1, .ref w2, .ref w3])), (w1, .inl (G.2.2.1, 100, .inl g)), (w2, .inl (G.2.2.2, 100, .inl h)), (w3, .inl (G.2.2.1, 10, .inl ink0))]) (wn := [(x, .inr (0, [.ref d1, .ref v1, .ref o1, .ref t1, .long ns, .int (shN n g h q)])), (d1, .inr (1, [.ref d2, .long sd, .int k, .int (nI n), .int fb])), (d2, .inl (G.2.1, 16, .inr (.inl f))), (v1, .inr (2, [.ref v2, .ref v3, .int (nI q)])), (v2, .inl (G.2.2.1, 100, .inl g)), (v3, .inl (G.2.2.2, 100, .inl h)), (o1, .inr (1, [.ref o2, .long sO, .int kO, .int (nI nO), .int bO])), (o2, .inl (G.2.1, 16, .inr (.inl fO))), (t1, .inr (1, [.ref t2, .long sT, .int kT, .int (nI nT), .int bT])), (t2, .inl (G.2.1, 16, .inr (.inl fT))), (mm, .inr (3, [.int 0, .long ns, .long sdM, .int (nI n), .int kM, .int (nI B), .int (nI q), .ref w1, .ref w2, .ref w3])), (w1, .inl (G.2.2.1, 100, .inl g)), (w2, .inl (G.2.2.2, 100, .inl h)), (w3, .inl (G.2.2.1, 10, .inl ink0))]) (ru_V (b := x) (As := []) (rest := []) ⟨hx, hb, hml, hown, ht⟩ hKN (c_P_shorter l G _ x d1 d2 v1 v2 v3 o1 t1 sd k n fb f g h q ns (nI B) (hP.sub [0, 1, 2, 3, 4, 5] rfl) ((hD.sub (ws' := [(x, .inr (0, [.ref d1, .ref v1, .ref o1, .ref t1, .long ns, .int (nI B)])), (d1, .inr (1, [.ref d2, .long sd, .int k, .int (nI n), .int fb])), (d2, .inl (G.2.1, 16, .inr (.inl f))), (v1, .inr (2, [.ref v2, .ref v3, .int (nI q)])), (v2, .inl (G.2.2.1, 100, .inl g)), (v3, .inl (G.2.2.2, 100, .inl h))]) [0, 1, 2, 3, 4, 5] (by decide) rfl).weaken (fun _ _ _ _ => trivial)) hn hq hE1) kc_L_47 ⟨rfl, rfl⟩ ⟨Nat.le_of_ble_eq_true rfl, Nat.le_of_ble_eq_true rfl⟩ (va_recv hK hP (ci := 0) (q0 := 0) rfl rfl) rfl hl.1 rfl (Nat.le_of_ble_eq_true rfl) d_L_law_309 ⟨Nat.le_of_ble_eq_true rfl, Nat.le_of_ble_eq_true rfl⟩) hP hD hS hA [0, 1, 2, 3, 4, 5] [6, 7, 8, 9, 10, 11, 12, 13] [8, 9, 10, 11, 12, 13, 0, 1, 2, 3, 4, 5, 6, 7] rfl rfl ⟨by decide, by decide, by decide⟩ (by decide) rfl rfl (fun H locs hP hD hS => ?_)
    rw [es1] at hP hD
    rw [es1]
    have hP : va_P G.1 classes [(x, .inr (0, [.ref d1, .ref v1, .ref o1, .ref t1, .long ns, .int (nI B2)])), (d1, .inr (1, [.ref d2, .long sd, .int k, .int (nI n), .int fb])), (d2, .inl (G.2.1, 16, .inr (.inl f))), (v1, .inr (2, [.ref v2, .ref v3, .int (nI q)])), (v2, .inl (G.2.2.1, 100, .inl g)), (v3, .inl (G.2.2.2, 100, .inl h)), (o1, .inr (1, [.ref o2, .long sO, .int kO, .int (nI nO), .int bO])), (o2, .inl (G.2.1, 16, .inr (.inl fO))), (t1, .inr (1, [.ref t2, .long sT, .int kT, .int (nI nT), .int bT])), (t2, .inl (G.2.1, 16, .inr (.inl fT))), (mm, .inr (3, [.int 0, .long ns, .long sdM, .int (nI n), .int kM, .int (nI B), .int (nI q), .ref w1, .ref w2, .ref w3])), (w1, .inl (G.2.2.1, 100, .inl g)), (w2, .inl (G.2.2.2, 100, .inl h)), (w3, .inl (G.2.2.1, 10, .inl ink0))] H := hP
    have hD : va_D A [(x, .inr (0, [.ref d1, .ref v1, .ref o1, .ref t1, .long ns, .int (nI B2)])), (d1, .inr (1, [.ref d2, .long sd, .int k, .int (nI n), .int fb])), (d2, .inl (G.2.1, 16, .inr (.inl f))), (v1, .inr (2, [.ref v2, .ref v3, .int (nI q)])), (v2, .inl (G.2.2.1, 100, .inl g)), (v3, .inl (G.2.2.2, 100, .inl h)), (o1, .inr (1, [.ref o2, .long sO, .int kO, .int (nI nO), .int bO])), (o2, .inl (G.2.1, 16, .inr (.inl fO))), (t1, .inr (1, [.ref t2, .long sT, .int kT, .int (nI nT), .int bT])), (t2, .inl (G.2.1, 16, .inr (.inl fT))), (mm, .inr (3, [.int 0, .long ns, .long sdM, .int (nI n), .int kM, .int (nI B), .int (nI q), .ref w1, .ref w2, .ref w3])), (w1, .inl (G.2.2.1, 100, .inl g)), (w2, .inl (G.2.2.2, 100, .inl h)), (w3, .inl (G.2.2.1, 10, .inl ink0))] := hD
    refine lv_aload_n hx hb d_L_law_312 rfl (lv_at hl 2 rfl) ?_
    refine mu_i (wr := [(x, .inr (0, [.ref d1, .ref v1, .ref o1, .ref t1, .long ns, .int (nI B2)])), (d1, .inr (1, [.ref d2, .long sd, .int k, .int (nI n), .int fb])), (d2, .inl (G.2.1, 16, .inr (.inl f))), (v1, .inr (2, [.ref v2, .ref v3, .int (nI q)])), (v2, .inl (G.2.2.1, 100, .inl g)), (v3, .inl (G.2.2.2, 100, .inl h)), (o1, .inr (1, [.ref o2, .long sO, .int kO, .int (nI nO), .int bO])), (o2, .inl (G.2.1, 16, .inr (.inl fO))), (t1, .inr (1, [.ref t2, .long sT, .int kT, .int (nI nT), .int bT])), (t2, .inl (G.2.1, 16, .inr (.inl fT)))]) (wn := [(x, .inr (0, [.ref d1, .ref v1, .ref o1, .ref t1, .long ns, .int (nI B2)])), (d1, .inr (1, [.ref d2, .long sd, .int k, .int (nI n), .int fb])), (d2, .inl (G.2.1, 16, .inr (.inl f))), (v1, .inr (2, [.ref v2, .ref v3, .int (nI q)])), (v2, .inl (G.2.2.1, 100, .inl g)), (v3, .inl (G.2.2.2, 100, .inl h)), (o1, .inr (1, [.ref o2, .long sO, .int kO, .int (nI nO), .int bO])), (o2, .inl (G.2.1, 16, .inr (.inl fO))), (t1, .inr (1, [.ref t2, .long sT, .int kT, .int (nI nT), .int bT])), (t2, .inl (G.2.1, 16, .inr (.inl fT))), (mm, .inr (3, [.int 0, .long ns, .long sdM, .int (nI n), .int kM, .int (nI B2), .int (nI q), .ref w1, .ref w2, .ref w3])), (w1, .inl (G.2.2.1, 100, .inl g)), (w2, .inl (G.2.2.2, 100, .inl h)), (w3, .inl (G.2.2.1, 10, .inl ink0))]) (ru_V (b := mm) (As := []) (rest := [.int (fn_J_bitCount (nI B2))]) ⟨hx, hb, hml, hown, ht⟩ hKN (c_M_shorter l G _ mm w1 w2 w3 ns sdM n kM (nI B) q g h ink0 t0 (nI B2) (hP.sub [10, 11, 12, 13] rfl) ((hD.sub (ws' := [(mm, .inr (3, [.int 0, .long ns, .long sdM, .int (nI n), .int kM, .int (nI B), .int (nI q), .ref w1, .ref w2, .ref w3])), (w1, .inl (G.2.2.1, 100, .inl g)), (w2, .inl (G.2.2.2, 100, .inl h)), (w3, .inl (G.2.2.1, 10, .inl ink0))]) [10, 11, 12, 13] (by decide) rfl).weaken (fun _ _ _ _ => trivial)) hn hq hE2 es2) kc_L_51 ⟨rfl, rfl⟩ ⟨Nat.le_of_ble_eq_true rfl, Nat.le_of_ble_eq_true rfl⟩ (va_recv hK hP (ci := 3) (q0 := 10) rfl rfl) rfl hl.1 rfl (Nat.le_of_ble_eq_true rfl) d_L_law_313 ⟨Nat.le_of_ble_eq_true rfl, Nat.le_of_ble_eq_true rfl⟩) hP hD hS hA [10, 11, 12, 13] [0, 1, 2, 3, 4, 5, 6, 7, 8, 9] [0, 1, 2, 3, 4, 5, 6, 7, 8, 9, 10, 11, 12, 13] rfl rfl ⟨by decide, by decide, by decide⟩ (by decide) rfl rfl (fun H locs hP hD hS => ?_)
    refine lv_icmp_eq (tgt := 453) hx hb d_L_law_316 (by decide) (fun c2 => ?_) (fun c2 => ?_)
    · exact next H locs ls ⟨d1, d2, v1, v2, v3, o1, t1, sd, k, n, fb, f, g, h, q, ns, B2, o2, sO, kO, nO, bO, fO, t2, sT, kT, nT, bT, fT, w1, w2, w3, sdM, kM, hP, hD, ⟨hn, hq, hd, hz, hB2, hk⟩, hnO, hnT⟩ hS (lv_sub hl [0, 1, 2, 3] rfl)
    · exact absurd (show fn_J_bitCount (nI B2) = co (nI B2) 16 from by rw [bc_pc (by omega), co_pc (by omega) 16 (Nat.le_refl _)]) c2
set_option maxHeartbeats 4000000 in
set_option maxRecDepth 100000 in
theorem law_case6 {p : Program} {l : Launch} {e : Env} {s : State} {m : MethodId} {below : List Frame} {meth : Method} {c : Code} {b L : Nat} {xs : Nat → Int32} {G : GT} {A : Nat → Prop} {tt : Nat} (hL : L ≤ 2561) (C : LC p s m meth c b L xs G A tt) {i x mm : Nat} (hi : i + 5 ≤ L) {H : Heap} {locs : List Loc} {ls : Array Slot} (hW : Wd G A x mm H) (hS : va_S A s.heap H locs) (hl : lv_has ls 4 [(0, .ref b), (1, .ref x), (2, .ref mm), (3, .int (nI i))])
    (next : ∀ (H : Heap) (locs : List Loc) (ls : Array Slot), Wd G A x mm H → va_S A s.heap H locs → lv_has ls 4 [(0, .ref b), (1, .ref x), (2, .ref mm), (3, .int (nI i))] → W p l e room_1 s m #[Value.ref b] below meth c H locs 14 492 (lw_Z below #[Value.ref b] s) (F0 m 453 ls [])) : W p l e room_1 s m #[Value.ref b] below meth c H locs 14 492 (lw_Z below #[Value.ref b] s) (F0 m 321 ls []) := by
  obtain ⟨hx, hb, hr, hml, hown, ht, hKN, hX, hbl, hlocks, hA, hbA, hZ, hT⟩ := C
  have hK := hKN.1
  obtain ⟨d1, d2, v1, v2, v3, o1, t1, sd, k, n, fb, f, g, h, q, ns, B, o2, sO, kO, nO, bO, fO, t2, sT, kT, nT, bT, fT, w1, w2, w3, sdM, kM, hP, hD, hR, hnO, hnT⟩ := hW
  obtain ⟨hn, hq, hd, hz, hB, hk⟩ := id hR
  refine lv_aload_n hx hb d_L_law_321 rfl (lv_at hl 1 rfl) ?_
  refine lv_aload_n hx hb d_L_law_322 rfl (lv_at hl 0 rfl) ?_
  refine lv_iload_n hx hb d_L_law_323 rfl (lv_at hl 3 rfl) ?_
  refine lv_iconst (v := 1) hx hb d_L_law_324 (by decide) ?_
  refine lv_iadd hx hb d_L_law_325 ?_
  rw [show nI i + 1 = nI (i + 1) from nI_add i 1]
  refine va_sld hx hb hX hbl hbA hS (i := nI (i + 1)) (vp_in_nI (show (i + 1) < L by omega) (by omega)) d_L_law_326 ?_
  rw [nI_clamp (show (i + 1) < 2 ^ 31 by omega)]
  refine pr_i (ru_V (b := x) (As := [.int (xs (i + 1))]) (rest := []) ⟨hx, hb, hml, hown, ht⟩ hKN (c_P_left l G _ x d1 d2 v1 v2 v3 o1 t1 sd k n fb f g h q ns (nI B) (xs (i + 1)) (hP.sub [0, 1, 2, 3, 4, 5] rfl) hn hq) kc_L_52 ⟨rfl, rfl⟩ ⟨Nat.le_of_ble_eq_true rfl, Nat.le_of_ble_eq_true rfl⟩ (va_recv hK hP (ci := 0) (q0 := 0) rfl rfl) rfl hl.1 rfl (Nat.le_of_ble_eq_true rfl) d_L_law_327 ⟨Nat.le_of_ble_eq_true rfl, Nat.le_of_ble_eq_true rfl⟩) ?_
  refine lv_aload_n hx hb d_L_law_330 rfl (lv_at hl 2 rfl) ?_
  refine lv_aload_n hx hb d_L_law_331 rfl (lv_at hl 0 rfl) ?_
  refine lv_iload_n hx hb d_L_law_332 rfl (lv_at hl 3 rfl) ?_
  refine lv_iconst (v := 1) hx hb d_L_law_333 (by decide) ?_
  refine lv_iadd hx hb d_L_law_334 ?_
  rw [show nI i + 1 = nI (i + 1) from nI_add i 1]
  refine va_sld hx hb hX hbl hbA hS (i := nI (i + 1)) (vp_in_nI (show (i + 1) < L by omega) (by omega)) d_L_law_335 ?_
  rw [nI_clamp (show (i + 1) < 2 ^ 31 by omega)]
  refine mu_i (wr := [(x, .inr (0, [.ref d1, .ref v1, .ref o1, .ref t1, .long ns, .int (nI B)])), (d1, .inr (1, [.ref d2, .long sd, .int k, .int (nI n), .int fb])), (d2, .inl (G.2.1, 16, .inr (.inl f))), (v1, .inr (2, [.ref v2, .ref v3, .int (nI q)])), (v2, .inl (G.2.2.1, 100, .inl g)), (v3, .inl (G.2.2.2, 100, .inl h)), (o1, .inr (1, [.ref o2, .long sO, .int kO, .int (nI nO), .int bO])), (o2, .inl (G.2.1, 16, .inr (.inl fO))), (t1, .inr (1, [.ref t2, .long sT, .int kT, .int (nI nT), .int bT])), (t2, .inl (G.2.1, 16, .inr (.inl fT)))]) (wn := [(x, .inr (0, [.ref d1, .ref v1, .ref o1, .ref t1, .long ns, .int (nI B)])), (d1, .inr (1, [.ref d2, .long sd, .int k, .int (nI n), .int fb])), (d2, .inl (G.2.1, 16, .inr (.inl f))), (v1, .inr (2, [.ref v2, .ref v3, .int (nI q)])), (v2, .inl (G.2.2.1, 100, .inl g)), (v3, .inl (G.2.2.2, 100, .inl h)), (o1, .inr (1, [.ref o2, .long sO, .int kO, .int (nI nO), .int bO])), (o2, .inl (G.2.1, 16, .inr (.inl fO))), (t1, .inr (1, [.ref t2, .long sT, .int kT, .int (nI nT), .int bT])), (t2, .inl (G.2.1, 16, .inr (.inl fT))), (mm, .inr (3, [.int 0, .long ns, .long sdM, .int (nI n), .int kM, .int (nI B), .int (nI q), .ref w1, .ref w2, .ref w3])), (w1, .inl (G.2.2.1, 100, .inl g)), (w2, .inl (G.2.2.2, 100, .inl h)), (w3, .inl (G.2.2.1, 10, .inl ink0))]) (ru_V (b := mm) (As := [.int (xs (i + 1))]) (rest := [.int (lf (nI B) (xs (i + 1)) 16 0 0)]) ⟨hx, hb, hml, hown, ht⟩ hKN (c_M_left l G _ mm w1 w2 w3 ns sdM n kM (nI B) q g h ink0 (xs (i + 1)) (hP.sub [10, 11, 12, 13] rfl) ((hD.sub (ws' := [(mm, .inr (3, [.int 0, .long ns, .long sdM, .int (nI n), .int kM, .int (nI B), .int (nI q), .ref w1, .ref w2, .ref w3])), (w1, .inl (G.2.2.1, 100, .inl g)), (w2, .inl (G.2.2.2, 100, .inl h)), (w3, .inl (G.2.2.1, 10, .inl ink0))]) [10, 11, 12, 13] (by decide) rfl).weaken (fun _ _ _ _ => trivial)) hn hq) kc_L_56 ⟨rfl, rfl⟩ ⟨Nat.le_of_ble_eq_true rfl, Nat.le_of_ble_eq_true rfl⟩ (va_recv hK hP (ci := 3) (q0 := 10) rfl rfl) rfl hl.1 rfl (Nat.le_of_ble_eq_true rfl) d_L_law_336 ⟨Nat.le_of_ble_eq_true rfl, Nat.le_of_ble_eq_true rfl⟩) hP hD hS hA [10, 11, 12, 13] [0, 1, 2, 3, 4, 5, 6, 7, 8, 9] [0, 1, 2, 3, 4, 5, 6, 7, 8, 9, 10, 11, 12, 13] rfl rfl ⟨by decide, by decide, by decide⟩ (by decide) rfl rfl (fun H locs hP hD hS => ?_)
  refine lv_icmp_eq (tgt := 453) hx hb d_L_law_339 (by decide) (fun c1 => ?_) (fun c1 => ?_)
  · exact next H locs ls ⟨d1, d2, v1, v2, v3, o1, t1, sd, k, n, fb, f, g, h, q, ns, B, o2, sO, kO, nO, bO, fO, t2, sT, kT, nT, bT, fT, w1, w2, w3, sdM, kM, hP, hD, hR, hnO, hnT⟩ hS (lv_sub hl [0, 1, 2, 3] rfl)
  · exact absurd (left_eq hn hB (xs (i + 1))) c1
set_option maxHeartbeats 4000000 in
set_option maxRecDepth 100000 in
theorem law_case7 {p : Program} {l : Launch} {e : Env} {s : State} {m : MethodId} {below : List Frame} {meth : Method} {c : Code} {b L : Nat} {xs : Nat → Int32} {G : GT} {A : Nat → Prop} {tt : Nat} (hL : L ≤ 2561) (C : LC p s m meth c b L xs G A tt) {i x mm : Nat} (hi : i + 5 ≤ L) {H : Heap} {locs : List Loc} {ls : Array Slot} (hW : Wd G A x mm H) (hS : va_S A s.heap H locs) (hl : lv_has ls 4 [(0, .ref b), (1, .ref x), (2, .ref mm), (3, .int (nI i))])
    (next : ∀ (H : Heap) (locs : List Loc) (ls : Array Slot), Wd G A x mm H → va_S A s.heap H locs → lv_has ls 4 [(0, .ref b), (1, .ref x), (2, .ref mm), (3, .int (nI i))] → W p l e room_1 s m #[Value.ref b] below meth c H locs 14 492 (lw_Z below #[Value.ref b] s) (F0 m 453 ls [])) : W p l e room_1 s m #[Value.ref b] below meth c H locs 14 492 (lw_Z below #[Value.ref b] s) (F0 m 344 ls []) := by
  obtain ⟨hx, hb, hr, hml, hown, ht, hKN, hX, hbl, hlocks, hA, hbA, hZ, hT⟩ := C
  have hK := hKN.1
  obtain ⟨d1, d2, v1, v2, v3, o1, t1, sd, k, n, fb, f, g, h, q, ns, B, o2, sO, kO, nO, bO, fO, t2, sT, kT, nT, bT, fT, w1, w2, w3, sdM, kM, hP, hD, hR, hnO, hnT⟩ := hW
  obtain ⟨hn, hq, hd, hz, hB, hk⟩ := id hR
  refine lv_aload_n hx hb d_L_law_344 rfl (lv_at hl 1 rfl) ?_
  refine pr_i (ru_V (b := x) (As := []) (rest := []) ⟨hx, hb, hml, hown, ht⟩ hKN (c_P_minimal l G _ x d1 d2 v1 v2 v3 o1 t1 sd k n fb f g h q ns (nI B) (hP.sub [0, 1, 2, 3, 4, 5] rfl) hn hq) kc_L_57 ⟨rfl, rfl⟩ ⟨Nat.le_of_ble_eq_true rfl, Nat.le_of_ble_eq_true rfl⟩ (va_recv hK hP (ci := 0) (q0 := 0) rfl rfl) rfl hl.1 rfl (Nat.le_of_ble_eq_true rfl) d_L_law_345 ⟨Nat.le_of_ble_eq_true rfl, Nat.le_of_ble_eq_true rfl⟩) ?_
  refine lv_aload_n hx hb d_L_law_348 rfl (lv_at hl 2 rfl) ?_
  refine mu_i (wr := [(x, .inr (0, [.ref d1, .ref v1, .ref o1, .ref t1, .long ns, .int (nI B)])), (d1, .inr (1, [.ref d2, .long sd, .int k, .int (nI n), .int fb])), (d2, .inl (G.2.1, 16, .inr (.inl f))), (v1, .inr (2, [.ref v2, .ref v3, .int (nI q)])), (v2, .inl (G.2.2.1, 100, .inl g)), (v3, .inl (G.2.2.2, 100, .inl h)), (o1, .inr (1, [.ref o2, .long sO, .int kO, .int (nI nO), .int bO])), (o2, .inl (G.2.1, 16, .inr (.inl fO))), (t1, .inr (1, [.ref t2, .long sT, .int kT, .int (nI nT), .int bT])), (t2, .inl (G.2.1, 16, .inr (.inl fT)))]) (wn := [(x, .inr (0, [.ref d1, .ref v1, .ref o1, .ref t1, .long ns, .int (nI B)])), (d1, .inr (1, [.ref d2, .long sd, .int k, .int (nI n), .int fb])), (d2, .inl (G.2.1, 16, .inr (.inl f))), (v1, .inr (2, [.ref v2, .ref v3, .int (nI q)])), (v2, .inl (G.2.2.1, 100, .inl g)), (v3, .inl (G.2.2.2, 100, .inl h)), (o1, .inr (1, [.ref o2, .long sO, .int kO, .int (nI nO), .int bO])), (o2, .inl (G.2.1, 16, .inr (.inl fO))), (t1, .inr (1, [.ref t2, .long sT, .int kT, .int (nI nT), .int bT])), (t2, .inl (G.2.1, 16, .inr (.inl fT))), (mm, .inr (3, [.int 0, .long ns, .long sdM, .int (nI n), .int kM, .int (nI B), .int (nI q), .ref w1, .ref w2, .ref w3])), (w1, .inl (G.2.2.1, 100, .inl g)), (w2, .inl (G.2.2.2, 100, .inl h)), (w3, .inl (G.2.2.1, 10, .inl ink0))]) (ru_V (b := mm) (As := []) (rest := [.int (mnm n g h q (nI B))]) ⟨hx, hb, hml, hown, ht⟩ hKN (c_M_minimal l G _ mm w1 w2 w3 ns sdM n kM (nI B) q g h ink0 (hP.sub [10, 11, 12, 13] rfl) ((hD.sub (ws' := [(mm, .inr (3, [.int 0, .long ns, .long sdM, .int (nI n), .int kM, .int (nI B), .int (nI q), .ref w1, .ref w2, .ref w3])), (w1, .inl (G.2.2.1, 100, .inl g)), (w2, .inl (G.2.2.2, 100, .inl h)), (w3, .inl (G.2.2.1, 10, .inl ink0))]) [10, 11, 12, 13] (by decide) rfl).weaken (fun _ _ _ _ => trivial)) hn hq) kc_L_61 ⟨rfl, rfl⟩ ⟨Nat.le_of_ble_eq_true rfl, Nat.le_of_ble_eq_true rfl⟩ (va_recv hK hP (ci := 3) (q0 := 10) rfl rfl) rfl hl.1 rfl (Nat.le_of_ble_eq_true rfl) d_L_law_349 ⟨Nat.le_of_ble_eq_true rfl, Nat.le_of_ble_eq_true rfl⟩) hP hD hS hA [10, 11, 12, 13] [0, 1, 2, 3, 4, 5, 6, 7, 8, 9] [0, 1, 2, 3, 4, 5, 6, 7, 8, 9, 10, 11, 12, 13] rfl rfl ⟨by decide, by decide, by decide⟩ (by decide) rfl rfl (fun H locs hP hD hS => ?_)
  refine lv_icmp_eq (tgt := 453) hx hb d_L_law_352 (by decide) (fun c1 => ?_) (fun c1 => ?_)
  · exact next H locs ls ⟨d1, d2, v1, v2, v3, o1, t1, sd, k, n, fb, f, g, h, q, ns, B, o2, sO, kO, nO, bO, fO, t2, sT, kT, nT, bT, fT, w1, w2, w3, sdM, kM, hP, hD, hR, hnO, hnT⟩ hS (lv_sub hl [0, 1, 2, 3] rfl)
  · exact absurd (minimal_eq hn hq hd hz hB) c1
set_option maxHeartbeats 4000000 in
set_option maxRecDepth 100000 in
theorem law_case8 {p : Program} {l : Launch} {e : Env} {s : State} {m : MethodId} {below : List Frame} {meth : Method} {c : Code} {b L : Nat} {xs : Nat → Int32} {G : GT} {A : Nat → Prop} {tt : Nat} (hL : L ≤ 2561) (C : LC p s m meth c b L xs G A tt) {i x mm : Nat} (hi : i + 5 ≤ L) {H : Heap} {locs : List Loc} {ls : Array Slot} (hW : Wd G A x mm H) (hS : va_S A s.heap H locs) (hl : lv_has ls 4 [(0, .ref b), (1, .ref x), (2, .ref mm), (3, .int (nI i))])
    (next : ∀ (H : Heap) (locs : List Loc) (ls : Array Slot), Wd G A x mm H → va_S A s.heap H locs → lv_has ls 4 [(0, .ref b), (1, .ref x), (2, .ref mm), (3, .int (nI i))] → W p l e room_1 s m #[Value.ref b] below meth c H locs 14 492 (lw_Z below #[Value.ref b] s) (F0 m 453 ls [])) : W p l e room_1 s m #[Value.ref b] below meth c H locs 14 492 (lw_Z below #[Value.ref b] s) (F0 m 357 ls []) := by
  obtain ⟨hx, hb, hr, hml, hown, ht, hKN, hX, hbl, hlocks, hA, hbA, hZ, hT⟩ := C
  have hK := hKN.1
  obtain ⟨d1, d2, v1, v2, v3, o1, t1, sd, k, n, fb, f, g, h, q, ns, B, o2, sO, kO, nO, bO, fO, t2, sT, kT, nT, bT, fT, w1, w2, w3, sdM, kM, hP, hD, hR, hnO, hnT⟩ := hW
  obtain ⟨hn, hq, hd, hz, hB, hk⟩ := id hR
  refine lv_aload_n hx hb d_L_law_357 rfl (lv_at hl 1 rfl) ?_
  refine lv_aload_n hx hb d_L_law_358 rfl (lv_at hl 0 rfl) ?_
  refine lv_iload_n hx hb d_L_law_359 rfl (lv_at hl 3 rfl) ?_
  refine lv_iconst (v := 1) hx hb d_L_law_360 (by decide) ?_
  refine lv_iadd hx hb d_L_law_361 ?_
  rw [show nI i + 1 = nI (i + 1) from nI_add i 1]
  refine va_sld hx hb hX hbl hbA hS (i := nI (i + 1)) (vp_in_nI (show (i + 1) < L by omega) (by omega)) d_L_law_362 ?_
  rw [nI_clamp (show (i + 1) < 2 ^ 31 by omega)]
  refine pr_i (ru_V (b := x) (As := [.int (xs (i + 1))]) (rest := []) ⟨hx, hb, hml, hown, ht⟩ hKN (c_P_faultless l G _ x d1 d2 v1 v2 v3 o1 t1 sd k n fb f g h q ns (nI B) (xs (i + 1)) (hP.sub [0, 1, 2, 3, 4, 5] rfl) hn hq) kc_L_62 ⟨rfl, rfl⟩ ⟨Nat.le_of_ble_eq_true rfl, Nat.le_of_ble_eq_true rfl⟩ (va_recv hK hP (ci := 0) (q0 := 0) rfl rfl) rfl hl.1 rfl (Nat.le_of_ble_eq_true rfl) d_L_law_363 ⟨Nat.le_of_ble_eq_true rfl, Nat.le_of_ble_eq_true rfl⟩) ?_
  refine lv_aload_n hx hb d_L_law_366 rfl (lv_at hl 2 rfl) ?_
  refine lv_aload_n hx hb d_L_law_367 rfl (lv_at hl 0 rfl) ?_
  refine lv_iload_n hx hb d_L_law_368 rfl (lv_at hl 3 rfl) ?_
  refine lv_iconst (v := 1) hx hb d_L_law_369 (by decide) ?_
  refine lv_iadd hx hb d_L_law_370 ?_
  rw [show nI i + 1 = nI (i + 1) from nI_add i 1]
  refine va_sld hx hb hX hbl hbA hS (i := nI (i + 1)) (vp_in_nI (show (i + 1) < L by omega) (by omega)) d_L_law_371 ?_
  rw [nI_clamp (show (i + 1) < 2 ^ 31 by omega)]
  refine mu_i (wr := [(x, .inr (0, [.ref d1, .ref v1, .ref o1, .ref t1, .long ns, .int (nI B)])), (d1, .inr (1, [.ref d2, .long sd, .int k, .int (nI n), .int fb])), (d2, .inl (G.2.1, 16, .inr (.inl f))), (v1, .inr (2, [.ref v2, .ref v3, .int (nI q)])), (v2, .inl (G.2.2.1, 100, .inl g)), (v3, .inl (G.2.2.2, 100, .inl h)), (o1, .inr (1, [.ref o2, .long sO, .int kO, .int (nI nO), .int bO])), (o2, .inl (G.2.1, 16, .inr (.inl fO))), (t1, .inr (1, [.ref t2, .long sT, .int kT, .int (nI nT), .int bT])), (t2, .inl (G.2.1, 16, .inr (.inl fT)))]) (wn := [(x, .inr (0, [.ref d1, .ref v1, .ref o1, .ref t1, .long ns, .int (nI B)])), (d1, .inr (1, [.ref d2, .long sd, .int k, .int (nI n), .int fb])), (d2, .inl (G.2.1, 16, .inr (.inl f))), (v1, .inr (2, [.ref v2, .ref v3, .int (nI q)])), (v2, .inl (G.2.2.1, 100, .inl g)), (v3, .inl (G.2.2.2, 100, .inl h)), (o1, .inr (1, [.ref o2, .long sO, .int kO, .int (nI nO), .int bO])), (o2, .inl (G.2.1, 16, .inr (.inl fO))), (t1, .inr (1, [.ref t2, .long sT, .int kT, .int (nI nT), .int bT])), (t2, .inl (G.2.1, 16, .inr (.inl fT))), (mm, .inr (3, [.int 0, .long ns, .long sdM, .int (nI n), .int kM, .int (nI B), .int (nI q), .ref w1, .ref w2, .ref w3])), (w1, .inl (G.2.2.1, 100, .inl g)), (w2, .inl (G.2.2.2, 100, .inl h)), (w3, .inl (G.2.2.1, 10, .inl ink0))]) (ru_V (b := mm) (As := [.int (xs (i + 1))]) (rest := [.int (fn_P_faultless k n fb (xs (i + 1)))]) ⟨hx, hb, hml, hown, ht⟩ hKN (c_M_faultless l G _ mm w1 w2 w3 ns sdM n kM (nI B) q g h ink0 (xs (i + 1)) (hP.sub [10, 11, 12, 13] rfl) ((hD.sub (ws' := [(mm, .inr (3, [.int 0, .long ns, .long sdM, .int (nI n), .int kM, .int (nI B), .int (nI q), .ref w1, .ref w2, .ref w3])), (w1, .inl (G.2.2.1, 100, .inl g)), (w2, .inl (G.2.2.2, 100, .inl h)), (w3, .inl (G.2.2.1, 10, .inl ink0))]) [10, 11, 12, 13] (by decide) rfl).weaken (fun _ _ _ _ => trivial)) hn hq) kc_L_66 ⟨rfl, rfl⟩ ⟨Nat.le_of_ble_eq_true rfl, Nat.le_of_ble_eq_true rfl⟩ (va_recv hK hP (ci := 3) (q0 := 10) rfl rfl) rfl hl.1 rfl (Nat.le_of_ble_eq_true rfl) d_L_law_372 ⟨Nat.le_of_ble_eq_true rfl, Nat.le_of_ble_eq_true rfl⟩) hP hD hS hA [10, 11, 12, 13] [0, 1, 2, 3, 4, 5, 6, 7, 8, 9] [0, 1, 2, 3, 4, 5, 6, 7, 8, 9, 10, 11, 12, 13] rfl rfl ⟨by decide, by decide, by decide⟩ (by decide) rfl rfl (fun H locs hP hD hS => ?_)
  refine lv_icmp_eq (tgt := 453) hx hb d_L_law_375 (by decide) (fun c1 => ?_) (fun c1 => ?_)
  · exact next H locs ls ⟨d1, d2, v1, v2, v3, o1, t1, sd, k, n, fb, f, g, h, q, ns, B, o2, sO, kO, nO, bO, fO, t2, sT, kT, nT, bT, fT, w1, w2, w3, sdM, kM, hP, hD, hR, hnO, hnT⟩ hS (lv_sub hl [0, 1, 2, 3] rfl)
  · exact absurd (rel_faultless hR (xs (i + 1))) c1
set_option maxHeartbeats 4000000 in
set_option maxRecDepth 100000 in
theorem law_case9 {p : Program} {l : Launch} {e : Env} {s : State} {m : MethodId} {below : List Frame} {meth : Method} {c : Code} {b L : Nat} {xs : Nat → Int32} {G : GT} {A : Nat → Prop} {tt : Nat} (hL : L ≤ 2561) (C : LC p s m meth c b L xs G A tt) {i x mm : Nat} (hi : i + 5 ≤ L) {H : Heap} {locs : List Loc} {ls : Array Slot} (hW : Wd G A x mm H) (hS : va_S A s.heap H locs) (hl : lv_has ls 4 [(0, .ref b), (1, .ref x), (2, .ref mm), (3, .int (nI i))])
    (next : ∀ (H : Heap) (locs : List Loc) (ls : Array Slot), Wd G A x mm H → va_S A s.heap H locs → lv_has ls 4 [(0, .ref b), (1, .ref x), (2, .ref mm), (3, .int (nI i))] → W p l e room_1 s m #[Value.ref b] below meth c H locs 14 492 (lw_Z below #[Value.ref b] s) (F0 m 453 ls [])) : W p l e room_1 s m #[Value.ref b] below meth c H locs 14 492 (lw_Z below #[Value.ref b] s) (F0 m 380 ls []) := by
  obtain ⟨hx, hb, hr, hml, hown, ht, hKN, hX, hbl, hlocks, hA, hbA, hZ, hT⟩ := C
  have hK := hKN.1
  obtain ⟨d1, d2, v1, v2, v3, o1, t1, sd, k, n, fb, f, g, h, q, ns, B, o2, sO, kO, nO, bO, fO, t2, sT, kT, nT, bT, fT, w1, w2, w3, sdM, kM, hP, hD, hR, hnO, hnT⟩ := hW
  obtain ⟨hn, hq, hd, hz, hB, hk⟩ := id hR
  by_cases hdr : fn_P_isDrawable (xs (i + 3)) (xs (i + 4)) = 0
  · have hdrM : mdr (xs (i + 3)) (xs (i + 4)) = 0 := by rw [dr_eq]; exact hdr
    refine lv_aload_n hx hb d_L_law_380 rfl (lv_at hl 1 rfl) ?_
    refine lv_aload_n hx hb d_L_law_381 rfl (lv_at hl 0 rfl) ?_
    refine lv_iload_n hx hb d_L_law_382 rfl (lv_at hl 3 rfl) ?_
    refine lv_iconst (v := 1) hx hb d_L_law_383 (by decide) ?_
    refine lv_iadd hx hb d_L_law_384 ?_
    rw [show nI i + 1 = nI (i + 1) from nI_add i 1]
    refine va_sld hx hb hX hbl hbA hS (i := nI (i + 1)) (vp_in_nI (show (i + 1) < L by omega) (by omega)) d_L_law_385 ?_
    rw [nI_clamp (show (i + 1) < 2 ^ 31 by omega)]
    refine lv_i2l hx hb d_L_law_386 rfl ?_
    refine lv_bipush (v := 32) hx hb d_L_law_387 (by decide) ?_
    refine lv_lshl hx hb d_L_law_389 rfl ?_
    refine lv_aload_n hx hb d_L_law_390 rfl (lv_at hl 0 rfl) ?_
    refine lv_iload_n hx hb d_L_law_391 rfl (lv_at hl 3 rfl) ?_
    refine lv_iconst (v := 2) hx hb d_L_law_392 (by decide) ?_
    refine lv_iadd hx hb d_L_law_393 ?_
    rw [show nI i + 2 = nI (i + 2) from nI_add i 2]
    refine va_sld hx hb hX hbl hbA hS (i := nI (i + 2)) (vp_in_nI (show (i + 2) < L by omega) (by omega)) d_L_law_394 ?_
    rw [nI_clamp (show (i + 2) < 2 ^ 31 by omega)]
    refine lv_i2l hx hb d_L_law_395 rfl ?_
    refine lv_ldc2 (v := 4294967295) hx hb hown (ht _ kl_L_21) d_L_law_396 ?_
    refine lv_land hx hb d_L_law_399 ?_
    refine lv_lor hx hb d_L_law_400 ?_
    refine lv_aload_n hx hb d_L_law_401 rfl (lv_at hl 0 rfl) ?_
    refine lv_iload_n hx hb d_L_law_402 rfl (lv_at hl 3 rfl) ?_
    refine lv_iconst (v := 3) hx hb d_L_law_403 (by decide) ?_
    refine lv_iadd hx hb d_L_law_404 ?_
    rw [show nI i + 3 = nI (i + 3) from nI_add i 3]
    refine va_sld hx hb hX hbl hbA hS (i := nI (i + 3)) (vp_in_nI (show (i + 3) < L by omega) (by omega)) d_L_law_405 ?_
    rw [nI_clamp (show (i + 3) < 2 ^ 31 by omega)]
    refine lv_aload_n hx hb d_L_law_406 rfl (lv_at hl 0 rfl) ?_
    refine lv_iload_n hx hb d_L_law_407 rfl (lv_at hl 3 rfl) ?_
    refine lv_iconst (v := 4) hx hb d_L_law_408 (by decide) ?_
    refine lv_iadd hx hb d_L_law_409 ?_
    rw [show nI i + 4 = nI (i + 4) from nI_add i 4]
    refine va_sld hx hb hX hbl hbA hS (i := nI (i + 4)) (vp_in_nI (show (i + 4) < L by omega) (by omega)) d_L_law_410 ?_
    rw [nI_clamp (show (i + 4) < 2 ^ 31 by omega)]
    refine pr_i (ru_V (b := x) (As := [.long ((((xs (i + 1)).toInt64) <<< ((32 : Int32).toInt64 &&& 63)) ||| (((xs (i + 2)).toInt64) &&& 4294967295)), .int (xs (i + 3)), .int (xs (i + 4))]) (rest := []) ⟨hx, hb, hml, hown, ht⟩ hKN (c_P_same_no l G _ x d1 d2 v1 v2 v3 o1 t1 sd k n fb f g h q ns (nI B) ((((xs (i + 1)).toInt64) <<< ((32 : Int32).toInt64 &&& 63)) ||| (((xs (i + 2)).toInt64) &&& 4294967295)) (xs (i + 3)) (xs (i + 4)) (hP.sub [0, 1, 2, 3, 4, 5] rfl) hn hq hdr) kc_L_67 ⟨rfl, rfl⟩ ⟨Nat.le_of_ble_eq_true rfl, Nat.le_of_ble_eq_true rfl⟩ (va_recv hK hP (ci := 0) (q0 := 0) rfl rfl) rfl hl.1 rfl (Nat.le_of_ble_eq_true rfl) d_L_law_411 ⟨Nat.le_of_ble_eq_true rfl, Nat.le_of_ble_eq_true rfl⟩) ?_
    refine lv_aload_n hx hb d_L_law_414 rfl (lv_at hl 2 rfl) ?_
    refine lv_aload_n hx hb d_L_law_415 rfl (lv_at hl 0 rfl) ?_
    refine lv_iload_n hx hb d_L_law_416 rfl (lv_at hl 3 rfl) ?_
    refine lv_iconst (v := 1) hx hb d_L_law_417 (by decide) ?_
    refine lv_iadd hx hb d_L_law_418 ?_
    rw [show nI i + 1 = nI (i + 1) from nI_add i 1]
    refine va_sld hx hb hX hbl hbA hS (i := nI (i + 1)) (vp_in_nI (show (i + 1) < L by omega) (by omega)) d_L_law_419 ?_
    rw [nI_clamp (show (i + 1) < 2 ^ 31 by omega)]
    refine lv_i2l hx hb d_L_law_420 rfl ?_
    refine lv_bipush (v := 32) hx hb d_L_law_421 (by decide) ?_
    refine lv_lshl hx hb d_L_law_423 rfl ?_
    refine lv_aload_n hx hb d_L_law_424 rfl (lv_at hl 0 rfl) ?_
    refine lv_iload_n hx hb d_L_law_425 rfl (lv_at hl 3 rfl) ?_
    refine lv_iconst (v := 2) hx hb d_L_law_426 (by decide) ?_
    refine lv_iadd hx hb d_L_law_427 ?_
    rw [show nI i + 2 = nI (i + 2) from nI_add i 2]
    refine va_sld hx hb hX hbl hbA hS (i := nI (i + 2)) (vp_in_nI (show (i + 2) < L by omega) (by omega)) d_L_law_428 ?_
    rw [nI_clamp (show (i + 2) < 2 ^ 31 by omega)]
    refine lv_i2l hx hb d_L_law_429 rfl ?_
    refine lv_ldc2 (v := 4294967295) hx hb hown (ht _ kl_L_21) d_L_law_430 ?_
    refine lv_land hx hb d_L_law_433 ?_
    refine lv_lor hx hb d_L_law_434 ?_
    refine lv_aload_n hx hb d_L_law_435 rfl (lv_at hl 0 rfl) ?_
    refine lv_iload_n hx hb d_L_law_436 rfl (lv_at hl 3 rfl) ?_
    refine lv_iconst (v := 3) hx hb d_L_law_437 (by decide) ?_
    refine lv_iadd hx hb d_L_law_438 ?_
    rw [show nI i + 3 = nI (i + 3) from nI_add i 3]
    refine va_sld hx hb hX hbl hbA hS (i := nI (i + 3)) (vp_in_nI (show (i + 3) < L by omega) (by omega)) d_L_law_439 ?_
    rw [nI_clamp (show (i + 3) < 2 ^ 31 by omega)]
    refine lv_aload_n hx hb d_L_law_440 rfl (lv_at hl 0 rfl) ?_
    refine lv_iload_n hx hb d_L_law_441 rfl (lv_at hl 3 rfl) ?_
    refine lv_iconst (v := 4) hx hb d_L_law_442 (by decide) ?_
    refine lv_iadd hx hb d_L_law_443 ?_
    rw [show nI i + 4 = nI (i + 4) from nI_add i 4]
    refine va_sld hx hb hX hbl hbA hS (i := nI (i + 4)) (vp_in_nI (show (i + 4) < L by omega) (by omega)) d_L_law_444 ?_
    rw [nI_clamp (show (i + 4) < 2 ^ 31 by omega)]
    refine mu_i (wr := [(x, .inr (0, [.ref d1, .ref v1, .ref o1, .ref t1, .long ns, .int (nI B)])), (d1, .inr (1, [.ref d2, .long sd, .int k, .int (nI n), .int fb])), (d2, .inl (G.2.1, 16, .inr (.inl f))), (v1, .inr (2, [.ref v2, .ref v3, .int (nI q)])), (v2, .inl (G.2.2.1, 100, .inl g)), (v3, .inl (G.2.2.2, 100, .inl h)), (o1, .inr (1, [.ref o2, .long sO, .int kO, .int (nI nO), .int bO])), (o2, .inl (G.2.1, 16, .inr (.inl fO))), (t1, .inr (1, [.ref t2, .long sT, .int kT, .int (nI nT), .int bT])), (t2, .inl (G.2.1, 16, .inr (.inl fT)))]) (wn := [(x, .inr (0, [.ref d1, .ref v1, .ref o1, .ref t1, .long ns, .int (nI B)])), (d1, .inr (1, [.ref d2, .long sd, .int k, .int (nI n), .int fb])), (d2, .inl (G.2.1, 16, .inr (.inl f))), (v1, .inr (2, [.ref v2, .ref v3, .int (nI q)])), (v2, .inl (G.2.2.1, 100, .inl g)), (v3, .inl (G.2.2.2, 100, .inl h)), (o1, .inr (1, [.ref o2, .long sO, .int kO, .int (nI nO), .int bO])), (o2, .inl (G.2.1, 16, .inr (.inl fO))), (t1, .inr (1, [.ref t2, .long sT, .int kT, .int (nI nT), .int bT])), (t2, .inl (G.2.1, 16, .inr (.inl fT))), (mm, .inr (3, [.int 0, .long ns, .long sdM, .int (nI n), .int kM, .int (nI B), .int (nI q), .ref w1, .ref w2, .ref w3])), (w1, .inl (G.2.2.1, 100, .inl g)), (w2, .inl (G.2.2.2, 100, .inl h)), (w3, .inl (G.2.2.1, 10, .inl ink0))]) (ru_V (b := mm) (As := [.long ((((xs (i + 1)).toInt64) <<< ((32 : Int32).toInt64 &&& 63)) ||| (((xs (i + 2)).toInt64) &&& 4294967295)), .int (xs (i + 3)), .int (xs (i + 4))]) (rest := [.int (0)]) ⟨hx, hb, hml, hown, ht⟩ hKN (c_M_same_no l G _ mm w1 w2 w3 ns sdM n kM (nI B) q g h ink0 ((((xs (i + 1)).toInt64) <<< ((32 : Int32).toInt64 &&& 63)) ||| (((xs (i + 2)).toInt64) &&& 4294967295)) (xs (i + 3)) (xs (i + 4)) (hP.sub [10, 11, 12, 13] rfl) ((hD.sub (ws' := [(mm, .inr (3, [.int 0, .long ns, .long sdM, .int (nI n), .int kM, .int (nI B), .int (nI q), .ref w1, .ref w2, .ref w3])), (w1, .inl (G.2.2.1, 100, .inl g)), (w2, .inl (G.2.2.2, 100, .inl h)), (w3, .inl (G.2.2.1, 10, .inl ink0))]) [10, 11, 12, 13] (by decide) rfl).weaken (fun _ _ _ _ => trivial)) hn hq hdrM) kc_L_71 ⟨rfl, rfl⟩ ⟨Nat.le_of_ble_eq_true rfl, Nat.le_of_ble_eq_true rfl⟩ (va_recv hK hP (ci := 3) (q0 := 10) rfl rfl) rfl hl.1 rfl (Nat.le_of_ble_eq_true rfl) d_L_law_445 ⟨Nat.le_of_ble_eq_true rfl, Nat.le_of_ble_eq_true rfl⟩) hP hD hS hA [10, 11, 12, 13] [0, 1, 2, 3, 4, 5, 6, 7, 8, 9] [0, 1, 2, 3, 4, 5, 6, 7, 8, 9, 10, 11, 12, 13] rfl rfl ⟨by decide, by decide, by decide⟩ (by decide) rfl rfl (fun H locs hP hD hS => ?_)
    refine lv_icmp_eq (tgt := 453) hx hb d_L_law_448 (by decide) (fun _ => ?_) (fun c1 => absurd (by decide) c1)
    exact next H locs ls ⟨d1, d2, v1, v2, v3, o1, t1, sd, k, n, fb, f, g, h, q, ns, B, o2, sO, kO, nO, bO, fO, t2, sT, kT, nT, bT, fT, w1, w2, w3, sdM, kM, hP, hD, hR, hnO, hnT⟩ hS (lv_sub hl [0, 1, 2, 3] rfl)
  · obtain ⟨z, hz16, ez, -, -⟩ := dr_get hdr
    have hdrM : ¬ mdr (xs (i + 3)) (xs (i + 4)) = 0 := by rw [dr_eq]; exact hdr
    rw [ez] at hdr hdrM
    refine lv_aload_n hx hb d_L_law_380 rfl (lv_at hl 1 rfl) ?_
    refine lv_aload_n hx hb d_L_law_381 rfl (lv_at hl 0 rfl) ?_
    refine lv_iload_n hx hb d_L_law_382 rfl (lv_at hl 3 rfl) ?_
    refine lv_iconst (v := 1) hx hb d_L_law_383 (by decide) ?_
    refine lv_iadd hx hb d_L_law_384 ?_
    rw [show nI i + 1 = nI (i + 1) from nI_add i 1]
    refine va_sld hx hb hX hbl hbA hS (i := nI (i + 1)) (vp_in_nI (show (i + 1) < L by omega) (by omega)) d_L_law_385 ?_
    rw [nI_clamp (show (i + 1) < 2 ^ 31 by omega)]
    refine lv_i2l hx hb d_L_law_386 rfl ?_
    refine lv_bipush (v := 32) hx hb d_L_law_387 (by decide) ?_
    refine lv_lshl hx hb d_L_law_389 rfl ?_
    refine lv_aload_n hx hb d_L_law_390 rfl (lv_at hl 0 rfl) ?_
    refine lv_iload_n hx hb d_L_law_391 rfl (lv_at hl 3 rfl) ?_
    refine lv_iconst (v := 2) hx hb d_L_law_392 (by decide) ?_
    refine lv_iadd hx hb d_L_law_393 ?_
    rw [show nI i + 2 = nI (i + 2) from nI_add i 2]
    refine va_sld hx hb hX hbl hbA hS (i := nI (i + 2)) (vp_in_nI (show (i + 2) < L by omega) (by omega)) d_L_law_394 ?_
    rw [nI_clamp (show (i + 2) < 2 ^ 31 by omega)]
    refine lv_i2l hx hb d_L_law_395 rfl ?_
    refine lv_ldc2 (v := 4294967295) hx hb hown (ht _ kl_L_21) d_L_law_396 ?_
    refine lv_land hx hb d_L_law_399 ?_
    refine lv_lor hx hb d_L_law_400 ?_
    refine lv_aload_n hx hb d_L_law_401 rfl (lv_at hl 0 rfl) ?_
    refine lv_iload_n hx hb d_L_law_402 rfl (lv_at hl 3 rfl) ?_
    refine lv_iconst (v := 3) hx hb d_L_law_403 (by decide) ?_
    refine lv_iadd hx hb d_L_law_404 ?_
    rw [show nI i + 3 = nI (i + 3) from nI_add i 3]
    refine va_sld hx hb hX hbl hbA hS (i := nI (i + 3)) (vp_in_nI (show (i + 3) < L by omega) (by omega)) d_L_law_405 ?_
    rw [nI_clamp (show (i + 3) < 2 ^ 31 by omega)]
    refine lv_aload_n hx hb d_L_law_406 rfl (lv_at hl 0 rfl) ?_
    refine lv_iload_n hx hb d_L_law_407 rfl (lv_at hl 3 rfl) ?_
    refine lv_iconst (v := 4) hx hb d_L_law_408 (by decide) ?_
    refine lv_iadd hx hb d_L_law_409 ?_
    rw [show nI i + 4 = nI (i + 4) from nI_add i 4]
    refine va_sld hx hb hX hbl hbA hS (i := nI (i + 4)) (vp_in_nI (show (i + 4) < L by omega) (by omega)) d_L_law_410 ?_
    rw [nI_clamp (show (i + 4) < 2 ^ 31 by omega)]
    rw [ez]
    refine mu_i (wr := [(mm, .inr (3, [.int 0, .long ns, .long sdM, .int (nI n), .int kM, .int (nI B), .int (nI q), .ref w1, .ref w2, .ref w3])), (w1, .inl (G.2.2.1, 100, .inl g)), (w2, .inl (G.2.2.2, 100, .inl h)), (w3, .inl (G.2.2.1, 10, .inl ink0))]) (wn := [(x, .inr (0, [.ref d1, .ref v1, .ref o1, .ref t1, .long ns, .int (nI B)])), (d1, .inr (1, [.ref d2, .long sd, .int k, .int (nI n), .int fb])), (d2, .inl (G.2.1, 16, .inr (.inl f))), (v1, .inr (2, [.ref v2, .ref v3, .int (nI q)])), (v2, .inl (G.2.2.1, 100, .inl g)), (v3, .inl (G.2.2.2, 100, .inl h)), (o1, .inr (1, [.ref o2, .long ns, .int (xs (i + 3)), .int (nI (z + 1)), .int (fbN (xs (i + 3)) (z + 1) (fl ns (xs (i + 3)) fO (z + 1)))])), (o2, .inl (G.2.1, 16, .inr (.inl (fl ns (xs (i + 3)) fO (z + 1))))), (t1, .inr (1, [.ref t2, .long ((((xs (i + 1)).toInt64) <<< ((32 : Int32).toInt64 &&& 63)) ||| (((xs (i + 2)).toInt64) &&& 4294967295)), .int (xs (i + 3)), .int (nI (z + 1)), .int (fbN (xs (i + 3)) (z + 1) (fl ((((xs (i + 1)).toInt64) <<< ((32 : Int32).toInt64 &&& 63)) ||| (((xs (i + 2)).toInt64) &&& 4294967295)) (xs (i + 3)) fT (z + 1)))])), (t2, .inl (G.2.1, 16, .inr (.inl (fl ((((xs (i + 1)).toInt64) <<< ((32 : Int32).toInt64 &&& 63)) ||| (((xs (i + 2)).toInt64) &&& 4294967295)) (xs (i + 3)) fT (z + 1))))), (mm, .inr (3, [.int 0, .long ns, .long sdM, .int (nI n), .int kM, .int (nI B), .int (nI q), .ref w1, .ref w2, .ref w3])), (w1, .inl (G.2.2.1, 100, .inl g)), (w2, .inl (G.2.2.2, 100, .inl h)), (w3, .inl (G.2.2.1, 10, .inl ink0))]) (ru_V (b := x) (As := [.long ((((xs (i + 1)).toInt64) <<< ((32 : Int32).toInt64 &&& 63)) ||| (((xs (i + 2)).toInt64) &&& 4294967295)), .int (xs (i + 3)), .int (nI z)]) (rest := []) ⟨hx, hb, hml, hown, ht⟩ hKN (c_P_same l G _ x d1 d2 v1 v2 v3 o1 t1 sd k n fb f g h q ns (nI B) o2 sO kO nO bO fO t2 sT kT nT bT fT ((((xs (i + 1)).toInt64) <<< ((32 : Int32).toInt64 &&& 63)) ||| (((xs (i + 2)).toInt64) &&& 4294967295)) (xs (i + 3)) z (hP.sub [0, 1, 2, 3, 4, 5, 6, 7, 8, 9] rfl) ((hD.sub (ws' := [(x, .inr (0, [.ref d1, .ref v1, .ref o1, .ref t1, .long ns, .int (nI B)])), (d1, .inr (1, [.ref d2, .long sd, .int k, .int (nI n), .int fb])), (d2, .inl (G.2.1, 16, .inr (.inl f))), (v1, .inr (2, [.ref v2, .ref v3, .int (nI q)])), (v2, .inl (G.2.2.1, 100, .inl g)), (v3, .inl (G.2.2.2, 100, .inl h)), (o1, .inr (1, [.ref o2, .long sO, .int kO, .int (nI nO), .int bO])), (o2, .inl (G.2.1, 16, .inr (.inl fO))), (t1, .inr (1, [.ref t2, .long sT, .int kT, .int (nI nT), .int bT])), (t2, .inl (G.2.1, 16, .inr (.inl fT)))]) [0, 1, 2, 3, 4, 5, 6, 7, 8, 9] (by decide) rfl).weaken (fun _ _ _ _ => trivial)) hn hq hnO hnT hdr hz16) kc_L_67 ⟨rfl, rfl⟩ ⟨Nat.le_of_ble_eq_true rfl, Nat.le_of_ble_eq_true rfl⟩ (va_recv hK hP (ci := 0) (q0 := 0) rfl rfl) rfl hl.1 rfl (Nat.le_of_ble_eq_true rfl) d_L_law_411 ⟨Nat.le_of_ble_eq_true rfl, Nat.le_of_ble_eq_true rfl⟩) hP hD hS hA [0, 1, 2, 3, 4, 5, 6, 7, 8, 9] [10, 11, 12, 13] [4, 5, 6, 7, 8, 9, 10, 11, 12, 13, 0, 1, 2, 3] rfl rfl ⟨by decide, by decide, by decide⟩ (by decide) rfl rfl (fun H locs hP hD hS => ?_)
    refine lv_aload_n hx hb d_L_law_414 rfl (lv_at hl 2 rfl) ?_
    refine lv_aload_n hx hb d_L_law_415 rfl (lv_at hl 0 rfl) ?_
    refine lv_iload_n hx hb d_L_law_416 rfl (lv_at hl 3 rfl) ?_
    refine lv_iconst (v := 1) hx hb d_L_law_417 (by decide) ?_
    refine lv_iadd hx hb d_L_law_418 ?_
    rw [show nI i + 1 = nI (i + 1) from nI_add i 1]
    refine va_sld hx hb hX hbl hbA hS (i := nI (i + 1)) (vp_in_nI (show (i + 1) < L by omega) (by omega)) d_L_law_419 ?_
    rw [nI_clamp (show (i + 1) < 2 ^ 31 by omega)]
    refine lv_i2l hx hb d_L_law_420 rfl ?_
    refine lv_bipush (v := 32) hx hb d_L_law_421 (by decide) ?_
    refine lv_lshl hx hb d_L_law_423 rfl ?_
    refine lv_aload_n hx hb d_L_law_424 rfl (lv_at hl 0 rfl) ?_
    refine lv_iload_n hx hb d_L_law_425 rfl (lv_at hl 3 rfl) ?_
    refine lv_iconst (v := 2) hx hb d_L_law_426 (by decide) ?_
    refine lv_iadd hx hb d_L_law_427 ?_
    rw [show nI i + 2 = nI (i + 2) from nI_add i 2]
    refine va_sld hx hb hX hbl hbA hS (i := nI (i + 2)) (vp_in_nI (show (i + 2) < L by omega) (by omega)) d_L_law_428 ?_
    rw [nI_clamp (show (i + 2) < 2 ^ 31 by omega)]
    refine lv_i2l hx hb d_L_law_429 rfl ?_
    refine lv_ldc2 (v := 4294967295) hx hb hown (ht _ kl_L_21) d_L_law_430 ?_
    refine lv_land hx hb d_L_law_433 ?_
    refine lv_lor hx hb d_L_law_434 ?_
    refine lv_aload_n hx hb d_L_law_435 rfl (lv_at hl 0 rfl) ?_
    refine lv_iload_n hx hb d_L_law_436 rfl (lv_at hl 3 rfl) ?_
    refine lv_iconst (v := 3) hx hb d_L_law_437 (by decide) ?_
    refine lv_iadd hx hb d_L_law_438 ?_
    rw [show nI i + 3 = nI (i + 3) from nI_add i 3]
    refine va_sld hx hb hX hbl hbA hS (i := nI (i + 3)) (vp_in_nI (show (i + 3) < L by omega) (by omega)) d_L_law_439 ?_
    rw [nI_clamp (show (i + 3) < 2 ^ 31 by omega)]
    refine lv_aload_n hx hb d_L_law_440 rfl (lv_at hl 0 rfl) ?_
    refine lv_iload_n hx hb d_L_law_441 rfl (lv_at hl 3 rfl) ?_
    refine lv_iconst (v := 4) hx hb d_L_law_442 (by decide) ?_
    refine lv_iadd hx hb d_L_law_443 ?_
    rw [show nI i + 4 = nI (i + 4) from nI_add i 4]
    refine va_sld hx hb hX hbl hbA hS (i := nI (i + 4)) (vp_in_nI (show (i + 4) < L by omega) (by omega)) d_L_law_444 ?_
    rw [nI_clamp (show (i + 4) < 2 ^ 31 by omega)]
    rw [ez]
    refine mu_i (wr := [(x, .inr (0, [.ref d1, .ref v1, .ref o1, .ref t1, .long ns, .int (nI B)])), (d1, .inr (1, [.ref d2, .long sd, .int k, .int (nI n), .int fb])), (d2, .inl (G.2.1, 16, .inr (.inl f))), (v1, .inr (2, [.ref v2, .ref v3, .int (nI q)])), (v2, .inl (G.2.2.1, 100, .inl g)), (v3, .inl (G.2.2.2, 100, .inl h)), (o1, .inr (1, [.ref o2, .long ns, .int (xs (i + 3)), .int (nI (z + 1)), .int (fbN (xs (i + 3)) (z + 1) (fl ns (xs (i + 3)) fO (z + 1)))])), (o2, .inl (G.2.1, 16, .inr (.inl (fl ns (xs (i + 3)) fO (z + 1))))), (t1, .inr (1, [.ref t2, .long ((((xs (i + 1)).toInt64) <<< ((32 : Int32).toInt64 &&& 63)) ||| (((xs (i + 2)).toInt64) &&& 4294967295)), .int (xs (i + 3)), .int (nI (z + 1)), .int (fbN (xs (i + 3)) (z + 1) (fl ((((xs (i + 1)).toInt64) <<< ((32 : Int32).toInt64 &&& 63)) ||| (((xs (i + 2)).toInt64) &&& 4294967295)) (xs (i + 3)) fT (z + 1)))])), (t2, .inl (G.2.1, 16, .inr (.inl (fl ((((xs (i + 1)).toInt64) <<< ((32 : Int32).toInt64 &&& 63)) ||| (((xs (i + 2)).toInt64) &&& 4294967295)) (xs (i + 3)) fT (z + 1)))))]) (wn := [(x, .inr (0, [.ref d1, .ref v1, .ref o1, .ref t1, .long ns, .int (nI B)])), (d1, .inr (1, [.ref d2, .long sd, .int k, .int (nI n), .int fb])), (d2, .inl (G.2.1, 16, .inr (.inl f))), (v1, .inr (2, [.ref v2, .ref v3, .int (nI q)])), (v2, .inl (G.2.2.1, 100, .inl g)), (v3, .inl (G.2.2.2, 100, .inl h)), (o1, .inr (1, [.ref o2, .long ns, .int (xs (i + 3)), .int (nI (z + 1)), .int (fbN (xs (i + 3)) (z + 1) (fl ns (xs (i + 3)) fO (z + 1)))])), (o2, .inl (G.2.1, 16, .inr (.inl (fl ns (xs (i + 3)) fO (z + 1))))), (t1, .inr (1, [.ref t2, .long ((((xs (i + 1)).toInt64) <<< ((32 : Int32).toInt64 &&& 63)) ||| (((xs (i + 2)).toInt64) &&& 4294967295)), .int (xs (i + 3)), .int (nI (z + 1)), .int (fbN (xs (i + 3)) (z + 1) (fl ((((xs (i + 1)).toInt64) <<< ((32 : Int32).toInt64 &&& 63)) ||| (((xs (i + 2)).toInt64) &&& 4294967295)) (xs (i + 3)) fT (z + 1)))])), (t2, .inl (G.2.1, 16, .inr (.inl (fl ((((xs (i + 1)).toInt64) <<< ((32 : Int32).toInt64 &&& 63)) ||| (((xs (i + 2)).toInt64) &&& 4294967295)) (xs (i + 3)) fT (z + 1))))), (mm, .inr (3, [.int 0, .long ns, .long sdM, .int (nI n), .int kM, .int (nI B), .int (nI q), .ref w1, .ref w2, .ref w3])), (w1, .inl (G.2.2.1, 100, .inl g)), (w2, .inl (G.2.2.2, 100, .inl h)), (w3, .inl (G.2.2.1, 10, .inl ink0))]) (ru_V (b := mm) (As := [.long ((((xs (i + 1)).toInt64) <<< ((32 : Int32).toInt64 &&& 63)) ||| (((xs (i + 2)).toInt64) &&& 4294967295)), .int (xs (i + 3)), .int (nI z)]) (rest := [.int (hsp (z + 1) (fbN (xs (i + 3)) (z + 1) (fl ns (xs (i + 3)) fO (z + 1))) (fl ns (xs (i + 3)) fO (z + 1)) (z + 1) (fbN (xs (i + 3)) (z + 1) (fl ((((xs (i + 1)).toInt64) <<< ((32 : Int32).toInt64 &&& 63)) ||| (((xs (i + 2)).toInt64) &&& 4294967295)) (xs (i + 3)) fT (z + 1))) (fl ((((xs (i + 1)).toInt64) <<< ((32 : Int32).toInt64 &&& 63)) ||| (((xs (i + 2)).toInt64) &&& 4294967295)) (xs (i + 3)) fT (z + 1)))]) ⟨hx, hb, hml, hown, ht⟩ hKN (c_M_same l G _ mm w1 w2 w3 ns sdM n kM (nI B) q g h ink0 ((((xs (i + 1)).toInt64) <<< ((32 : Int32).toInt64 &&& 63)) ||| (((xs (i + 2)).toInt64) &&& 4294967295)) (xs (i + 3)) z (hP.sub [10, 11, 12, 13] rfl) ((hD.sub (ws' := [(mm, .inr (3, [.int 0, .long ns, .long sdM, .int (nI n), .int kM, .int (nI B), .int (nI q), .ref w1, .ref w2, .ref w3])), (w1, .inl (G.2.2.1, 100, .inl g)), (w2, .inl (G.2.2.2, 100, .inl h)), (w3, .inl (G.2.2.1, 10, .inl ink0))]) [10, 11, 12, 13] (by decide) rfl).weaken (fun _ _ _ _ => trivial)) hn hq hdrM hz16) kc_L_71 ⟨rfl, rfl⟩ ⟨Nat.le_of_ble_eq_true rfl, Nat.le_of_ble_eq_true rfl⟩ (va_recv hK hP (ci := 3) (q0 := 10) rfl rfl) rfl hl.1 rfl (Nat.le_of_ble_eq_true rfl) d_L_law_445 ⟨Nat.le_of_ble_eq_true rfl, Nat.le_of_ble_eq_true rfl⟩) hP hD hS hA [10, 11, 12, 13] [0, 1, 2, 3, 4, 5, 6, 7, 8, 9] [0, 1, 2, 3, 4, 5, 6, 7, 8, 9, 10, 11, 12, 13] rfl rfl ⟨by decide, by decide, by decide⟩ (by decide) rfl rfl (fun H locs hP hD hS => ?_)
    refine lv_icmp_eq (tgt := 453) hx hb d_L_law_448 (by decide) (fun c2 => ?_) (fun c2 => ?_)
    · exact next H locs ls ⟨d1, d2, v1, v2, v3, o1, t1, sd, k, n, fb, f, g, h, q, ns, B, o2, ns, (xs (i + 3)), (z + 1), (fbN (xs (i + 3)) (z + 1) (fl ns (xs (i + 3)) fO (z + 1))), (fl ns (xs (i + 3)) fO (z + 1)), t2, (((xs (i + 1)).toInt64 <<< ((32 : Int32).toInt64 &&& 63)) ||| ((xs (i + 2)).toInt64 &&& 4294967295)), (xs (i + 3)), (z + 1), (fbN (xs (i + 3)) (z + 1) (fl (((xs (i + 1)).toInt64 <<< ((32 : Int32).toInt64 &&& 63)) ||| ((xs (i + 2)).toInt64 &&& 4294967295)) (xs (i + 3)) fT (z + 1))), (fl (((xs (i + 1)).toInt64 <<< ((32 : Int32).toInt64 &&& 63)) ||| ((xs (i + 2)).toInt64 &&& 4294967295)) (xs (i + 3)) fT (z + 1)), w1, w2, w3, sdM, kM, hP, hD, hR, (by omega), (by omega)⟩ hS (lv_sub hl [0, 1, 2, 3] rfl)
    · exact absurd (same_eq (n := z + 1) (by omega) (fun i hi => fl_at _ _ _ (z + 1) i hi) (fun i hi => fl_at _ _ _ (z + 1) i hi)) c2
