theorem arr_get {args : Array Value} {s : State} {ty : FieldType} (h : (Cond.arrayClass ty).before args s = true) : ∃ cA : ClassId, ArrOfT s cA ty ∧ s.vm.findClass ("[" ++ ty.toString) = some cA := by
  obtain ⟨cA, kA, comp, h1, h2, h3⟩ := Cond.arrayClass_spec h
  exact ⟨cA, fun n z => ⟨fun k h => (by cases h), kA, h2, comp, h3⟩, h1⟩
/-- the tables of the run, at the law's entry -/
theorem kn_get {s : State} {b : Nat} (hts : ∀ w ∈ lw_tbl, w.before #[Value.ref b] s = true) : ∃ G : GT, KN G s := by
  have ht : ∀ w ∈ TG, w.before #[Value.ref b] s = true := fun w h => hts w (List.mem_filter.mp h).1
  obtain ⟨cP, iP, hP⟩ := u_known (C := R_P) (T := F_P) (N := 6) (n := 6) ht in_P (ht _ ki_P)
  obtain ⟨cD, iD, hD⟩ := u_known (C := R_D) (T := F_D) (N := 5) (n := 5) ht in_D (ht _ ki_D)
  obtain ⟨cV, iV, hV⟩ := u_known (C := R_V) (T := F_V) (N := 3) (n := 3) ht in_V (ht _ ki_V)
  obtain ⟨cM, iM, hM⟩ := u_known (C := R_M) (T := F_M) (N := 10) (n := 10) ht in_M (ht _ ki_M)
  obtain ⟨cl, al, bl⟩ := arr_get (ht _ k_arr_long)
  obtain ⟨ci, ai, bi⟩ := arr_get (ht _ k_arr_int)
  obtain ⟨cz, az, bz⟩ := arr_get (ht _ k_arr_boolean)
  refine ⟨((fun k => if k = 0 then cP else if k = 1 then cD else if k = 2 then cV else cM, fun k => if k = 0 then iP else if k = 1 then iD else if k = 2 then iV else iM), cl, ci, cz), ⟨?_, ?_⟩, ?_⟩
  · intro k q hq
    match k, hq with
    | 0, hq => cases hq; exact hP
    | 1, hq => cases hq; exact hD
    | 2, hq => cases hq; exact hV
    | 3, hq => cases hq; exact hM
    | k + 4, hq => simp [classes] at hq
  · intro k q hq
    match k, hq with
    | 0, hq => cases hq; exact ⟨al, bl⟩
    | 1, hq => cases hq; exact ⟨ai, bi⟩
    | 2, hq => cases hq; exact ⟨az, bz⟩
    | k + 3, hq => simp at hq
  · intro w hw hn
    have h := hts w hw
    cases w with
    | fieldLinkNest a i b n d o => exact va_Nw.of rfl h
    | methodLinkNest a i x o => exact va_Nw.of rfl h
    | _ => cases hn
theorem sg_get {s : State} {b : Nat} {A : Nat → Prop} (hts : ∀ w ∈ lw_tbl, w.before #[Value.ref b] s = true) (hgv : (Jvm.Cond.and given_1 narrow_1).before #[Value.ref b] s = true) (hA : ∀ a : Nat, a < s.heap.size → ¬ A a) : ∃ tt, va_Z "PostDrawer" "SIGNS" "[I" (.ref tt) A s s.heap ∧ va_T .int tt 10 (fun j => .int (sgn j)) A s s.heap := by
  have hs := flat_of_before _ hgv
  have harr : (Cond.arrayOf (.static "PostDrawer" "SIGNS" "[I") .int).before #[Value.ref b] s = true := hs _ (by decide +kernel)
  have hlen : (Cond.eq (.length (.static "PostDrawer" "SIGNS" "[I")) (.int 10)).before #[Value.ref b] s = true := hs _ (by decide +kernel)
  obtain ⟨tt, h1, h2⟩ := va_Tof (N := 10) (f := fun j => .int (sgn j)) (A := A) (by decide) harr (va_eqt hlen) (by
    intro j hj
    rcases (show j = 0 ∨ j = 1 ∨ j = 2 ∨ j = 3 ∨ j = 4 ∨ j = 5 ∨ j = 6 ∨ j = 7 ∨ j = 8 ∨ j = 9 by omega) with rfl | rfl | rfl | rfl | rfl | rfl | rfl | rfl | rfl | rfl
    · exact va_eqt (hs (Cond.eq (.elem (.static "PostDrawer" "SIGNS" "[I") (.int 0)) (.int 31599)) (by decide +kernel))
    · exact va_eqt (hs (Cond.eq (.elem (.static "PostDrawer" "SIGNS" "[I") (.int 1)) (.int 11415)) (by decide +kernel))
    · exact va_eqt (hs (Cond.eq (.elem (.static "PostDrawer" "SIGNS" "[I") (.int 2)) (.int 29671)) (by decide +kernel))
    · exact va_eqt (hs (Cond.eq (.elem (.static "PostDrawer" "SIGNS" "[I") (.int 3)) (.int 29647)) (by decide +kernel))
    · exact va_eqt (hs (Cond.eq (.elem (.static "PostDrawer" "SIGNS" "[I") (.int 4)) (.int 23497)) (by decide +kernel))
    · exact va_eqt (hs (Cond.eq (.elem (.static "PostDrawer" "SIGNS" "[I") (.int 5)) (.int 31183)) (by decide +kernel))
    · exact va_eqt (hs (Cond.eq (.elem (.static "PostDrawer" "SIGNS" "[I") (.int 6)) (.int 31215)) (by decide +kernel))
    · exact va_eqt (hs (Cond.eq (.elem (.static "PostDrawer" "SIGNS" "[I") (.int 7)) (.int 29257)) (by decide +kernel))
    · exact va_eqt (hs (Cond.eq (.elem (.static "PostDrawer" "SIGNS" "[I") (.int 8)) (.int 31727)) (by decide +kernel))
    · exact va_eqt (hs (Cond.eq (.elem (.static "PostDrawer" "SIGNS" "[I") (.int 9)) (.int 31695)) (by decide +kernel))) hA
  exact ⟨tt, va_Zref (hts _ k_sig) (hts _ (List.mem_filter.mp kz_P).1) h1 hA, h2⟩
set_option maxHeartbeats 4000000 in
set_option maxRecDepth 100000 in
/-- THE LAW, from its entry -/
theorem whole_start {p : Program} {e : Env} {s : State} {m : MethodId} {below : List Frame} {meth : Method} {c : Code} (l : Launch) {b L : Nat} {xs : Nat → Int32} (hL : L ≤ 2561) (C0 : lw_At p s m meth c b L xs) : W p l e room_1 s m #[Value.ref b] below meth c s.heap [] 0 0 (lw_Z below #[Value.ref b] s) (entryFrame m ([Value.ref b] : List Value).toArray 4) := by
  obtain ⟨hx, hb, hr, hml, hown, hts, hX, hbl, hlocks, hgv⟩ := id C0
  have hown : s.vm.findClass R_L = some m.cls := hown
  have ht : ∀ w ∈ TG, w.before #[Value.ref b] s = true := fun w h => hts w (List.mem_filter.mp h).1
  obtain ⟨G, hKN⟩ := kn_get hts
  have hK := hKN.1
  obtain ⟨A, hAe⟩ : ∃ A : Nat → Prop, A = fun q : Nat => s.heap.size ≤ q := ⟨_, rfl⟩
  have hA : ∀ q : Nat, s.heap.size ≤ q → A q := fun q h => by rw [hAe]; exact h
  have hA2 : ∀ q : Nat, A q → s.heap.size ≤ q := fun q h => by rw [hAe] at h; exact h
  have hbA : ¬ A b := fun z => absurd (hA2 b z) (Nat.not_le.mpr hbl)
  obtain ⟨tt, hZ, hT⟩ := sg_get (A := A) hts hgv (fun a h z => absurd (hA2 a z) (Nat.not_le.mpr h))
  have hS : va_S A s.heap s.heap [] := va_S.rf
  have hP : va_P G.1 classes [] s.heap := fun k q h => by simp at h
  have hD : va_D A [] := ⟨fun i j p q h => by simp at h, fun k q h => by simp at h⟩
  have hl := lv_entry ([.ref b]) (n := 4) (Nat.le_of_ble_eq_true rfl)
  rw [lg_entry_eq]
  generalize (lg_sl ([.ref b]) ++ List.replicate (4 - (lg_sl ([.ref b])).length) Slot.unset).toArray = ls at hl ⊢
  have hl : lv_has ls 4 [(0, .ref b)] := hl
  refine va_new (ci := 0) (fs := [.null, .null, .null, .null, .long 0, .int 0]) (C := R_P) (T := F_P) (N := 6) hx hb ht in_P t_P tk_P hown (ht _ kw_L_7) (ht _ ki_P) (ht _ kz_P) hK hP hD hS hA rfl (fun j hj => by rcases (show j = 0 ∨ j = 1 ∨ j = 2 ∨ j = 3 ∨ j = 4 ∨ j = 5 by omega) with rfl | rfl | rfl | rfl | rfl | rfl <;> rfl) (Nat.le_of_ble_eq_true rfl) (Nat.le_of_ble_eq_true rfl) d_L_law_0 (fun x H hP hD hS => ?_)
  have hP : va_P G.1 classes [(x, .inr (0, [.null, .null, .null, .null, .long 0, .int 0]))] H := hP
  have hD : va_D A [(x, .inr (0, [.null, .null, .null, .null, .long 0, .int 0]))] := hD
  refine lv_dup hx hb d_L_law_3 rfl ?_
  refine lv_aload_n hx hb d_L_law_4 rfl (lv_at hl 0 rfl) ?_
  refine lv_iconst (v := 0) hx hb d_L_law_5 (by decide) ?_
  refine pr_i (ru_SX (As := [.ref b, .int 0]) (rest := [.ref x, .ref x]) ⟨hx, hb, hml, hown, ht⟩ hKN (hX.kept (hS.2.1 b hbl hbA)) (c_L_cell l G _ b L xs hL) kc_L_9 ⟨rfl, rfl⟩ ⟨Nat.le_of_ble_eq_true rfl, Nat.le_of_ble_eq_true rfl⟩ rfl hl.1 rfl (Nat.le_of_ble_eq_true rfl) d_L_law_6 ⟨Nat.le_of_ble_eq_true rfl, Nat.le_of_ble_eq_true rfl⟩) ?_
  refine mu_n (wr := []) (ru_I (b := x) (As := [.int (c0 L xs)]) (rest := [.ref x]) ⟨hx, hb, hml, hown, ht⟩ hKN (c_P_init l G _ x (c0 L xs) (hP.sub [0] rfl) ((hD.sub (ws' := [(x, .inr (0, [.null, .null, .null, .null, .long 0, .int 0]))]) [0] (by decide) rfl).weaken (fun _ _ _ _ => trivial))) kc_L_15 ⟨rfl, rfl⟩ ⟨Nat.le_of_ble_eq_true rfl, Nat.le_of_ble_eq_true rfl⟩ rfl hl.1 rfl (Nat.le_of_ble_eq_true rfl) d_L_law_9 ⟨Nat.le_of_ble_eq_true rfl, Nat.le_of_ble_eq_true rfl⟩) hP hD hS hA [0] [] rfl rfl (by decide) (by decide) (fun zP H locs hP hD hS => ?_)
  obtain ⟨d1, d2, v1, v2, v3, o1, o2, t1, t2⟩ := zP
  have hP : va_P G.1 classes [(x, .inr (0, [.ref d1, .ref v1, .ref o1, .ref t1, .long ((c0 L xs).toInt64), .int 0])), (d1, .inr (1, [.ref d2, .long 0, .int (-1), .int (nI 0), .int 0])), (d2, .inl (G.2.1, 16, .inr (.inl (fun _ => 0)))), (v1, .inr (2, [.ref v2, .ref v3, .int (nI 0)])), (v2, .inl (G.2.2.1, 100, .inl (fun _ => 0))), (v3, .inl (G.2.2.2, 100, .inl (fun _ => 0))), (o1, .inr (1, [.ref o2, .long 0, .int (-1), .int (nI 0), .int 0])), (o2, .inl (G.2.1, 16, .inr (.inl (fun _ => 0)))), (t1, .inr (1, [.ref t2, .long 0, .int (-1), .int (nI 0), .int 0])), (t2, .inl (G.2.1, 16, .inr (.inl (fun _ => 0))))] H := hP
  have hD : va_D A [(x, .inr (0, [.ref d1, .ref v1, .ref o1, .ref t1, .long ((c0 L xs).toInt64), .int 0])), (d1, .inr (1, [.ref d2, .long 0, .int (-1), .int (nI 0), .int 0])), (d2, .inl (G.2.1, 16, .inr (.inl (fun _ => 0)))), (v1, .inr (2, [.ref v2, .ref v3, .int (nI 0)])), (v2, .inl (G.2.2.1, 100, .inl (fun _ => 0))), (v3, .inl (G.2.2.2, 100, .inl (fun _ => 0))), (o1, .inr (1, [.ref o2, .long 0, .int (-1), .int (nI 0), .int 0])), (o2, .inl (G.2.1, 16, .inr (.inl (fun _ => 0)))), (t1, .inr (1, [.ref t2, .long 0, .int (-1), .int (nI 0), .int 0])), (t2, .inl (G.2.1, 16, .inr (.inl (fun _ => 0))))] := hD
  refine lv_astore_n (lv' := [(1, .ref x), (0, .ref b)]) hx hb d_L_law_12 rfl hl (by decide) rfl (fun ls hl => ?_)
  refine va_new (ci := 3) (fs := [.int 0, .long 0, .long 0, .int 0, .int 0, .int 0, .int 0, .null, .null, .null]) (C := R_M) (T := F_M) (N := 10) hx hb ht in_M t_M tk_M hown (ht _ kw_L_18) (ht _ ki_M) (ht _ kz_M) hK hP hD hS hA rfl (fun j hj => by rcases (show j = 0 ∨ j = 1 ∨ j = 2 ∨ j = 3 ∨ j = 4 ∨ j = 5 ∨ j = 6 ∨ j = 7 ∨ j = 8 ∨ j = 9 by omega) with rfl | rfl | rfl | rfl | rfl | rfl | rfl | rfl | rfl | rfl <;> rfl) (Nat.le_of_ble_eq_true rfl) (Nat.le_of_ble_eq_true rfl) d_L_law_13 (fun mm H hP hD hS => ?_)
  have hP : va_P G.1 classes [(x, .inr (0, [.ref d1, .ref v1, .ref o1, .ref t1, .long ((c0 L xs).toInt64), .int 0])), (d1, .inr (1, [.ref d2, .long 0, .int (-1), .int (nI 0), .int 0])), (d2, .inl (G.2.1, 16, .inr (.inl (fun _ => 0)))), (v1, .inr (2, [.ref v2, .ref v3, .int (nI 0)])), (v2, .inl (G.2.2.1, 100, .inl (fun _ => 0))), (v3, .inl (G.2.2.2, 100, .inl (fun _ => 0))), (o1, .inr (1, [.ref o2, .long 0, .int (-1), .int (nI 0), .int 0])), (o2, .inl (G.2.1, 16, .inr (.inl (fun _ => 0)))), (t1, .inr (1, [.ref t2, .long 0, .int (-1), .int (nI 0), .int 0])), (t2, .inl (G.2.1, 16, .inr (.inl (fun _ => 0)))), (mm, .inr (3, [.int 0, .long 0, .long 0, .int 0, .int 0, .int 0, .int 0, .null, .null, .null]))] H := hP
  have hD : va_D A [(x, .inr (0, [.ref d1, .ref v1, .ref o1, .ref t1, .long ((c0 L xs).toInt64), .int 0])), (d1, .inr (1, [.ref d2, .long 0, .int (-1), .int (nI 0), .int 0])), (d2, .inl (G.2.1, 16, .inr (.inl (fun _ => 0)))), (v1, .inr (2, [.ref v2, .ref v3, .int (nI 0)])), (v2, .inl (G.2.2.1, 100, .inl (fun _ => 0))), (v3, .inl (G.2.2.2, 100, .inl (fun _ => 0))), (o1, .inr (1, [.ref o2, .long 0, .int (-1), .int (nI 0), .int 0])), (o2, .inl (G.2.1, 16, .inr (.inl (fun _ => 0)))), (t1, .inr (1, [.ref t2, .long 0, .int (-1), .int (nI 0), .int 0])), (t2, .inl (G.2.1, 16, .inr (.inl (fun _ => 0)))), (mm, .inr (3, [.int 0, .long 0, .long 0, .int 0, .int 0, .int 0, .int 0, .null, .null, .null]))] := hD
  refine lv_dup hx hb d_L_law_16 rfl ?_
  refine lv_aload_n hx hb d_L_law_17 rfl (lv_at hl 1 rfl) ?_
  refine lv_iconst (v := 0) hx hb d_L_law_18 (by decide) ?_
  refine pr_i (ru_SX (As := [.ref b, .int 0]) (rest := [.ref mm, .ref mm]) ⟨hx, hb, hml, hown, ht⟩ hKN (hX.kept (hS.2.1 b hbl hbA)) (c_L_cell l G _ b L xs hL) kc_L_9 ⟨rfl, rfl⟩ ⟨Nat.le_of_ble_eq_true rfl, Nat.le_of_ble_eq_true rfl⟩ rfl hl.1 rfl (Nat.le_of_ble_eq_true rfl) d_L_law_19 ⟨Nat.le_of_ble_eq_true rfl, Nat.le_of_ble_eq_true rfl⟩) ?_
  refine mu_n (wr := [(x, .inr (0, [.ref d1, .ref v1, .ref o1, .ref t1, .long ((c0 L xs).toInt64), .int 0])), (d1, .inr (1, [.ref d2, .long 0, .int (-1), .int (nI 0), .int 0])), (d2, .inl (G.2.1, 16, .inr (.inl (fun _ => 0)))), (v1, .inr (2, [.ref v2, .ref v3, .int (nI 0)])), (v2, .inl (G.2.2.1, 100, .inl (fun _ => 0))), (v3, .inl (G.2.2.2, 100, .inl (fun _ => 0))), (o1, .inr (1, [.ref o2, .long 0, .int (-1), .int (nI 0), .int 0])), (o2, .inl (G.2.1, 16, .inr (.inl (fun _ => 0)))), (t1, .inr (1, [.ref t2, .long 0, .int (-1), .int (nI 0), .int 0])), (t2, .inl (G.2.1, 16, .inr (.inl (fun _ => 0))))]) (ru_I (b := mm) (As := [.int (c0 L xs)]) (rest := [.ref mm]) ⟨hx, hb, hml, hown, ht⟩ hKN (c_M_init l G _ mm (c0 L xs) (hP.sub [10] rfl) ((hD.sub (ws' := [(mm, .inr (3, [.int 0, .long 0, .long 0, .int 0, .int 0, .int 0, .int 0, .null, .null, .null]))]) [10] (by decide) rfl).weaken (fun _ _ _ _ => trivial))) kc_L_20 ⟨rfl, rfl⟩ ⟨Nat.le_of_ble_eq_true rfl, Nat.le_of_ble_eq_true rfl⟩ rfl hl.1 rfl (Nat.le_of_ble_eq_true rfl) d_L_law_22 ⟨Nat.le_of_ble_eq_true rfl, Nat.le_of_ble_eq_true rfl⟩) hP hD hS hA [10] [0, 1, 2, 3, 4, 5, 6, 7, 8, 9] rfl rfl (by decide) (by decide) (fun zM H locs hP hD hS => ?_)
  obtain ⟨w1, w2, w3⟩ := zM
  have hP : va_P G.1 classes [(x, .inr (0, [.ref d1, .ref v1, .ref o1, .ref t1, .long ((c0 L xs).toInt64), .int 0])), (d1, .inr (1, [.ref d2, .long 0, .int (-1), .int (nI 0), .int 0])), (d2, .inl (G.2.1, 16, .inr (.inl (fun _ => 0)))), (v1, .inr (2, [.ref v2, .ref v3, .int (nI 0)])), (v2, .inl (G.2.2.1, 100, .inl (fun _ => 0))), (v3, .inl (G.2.2.2, 100, .inl (fun _ => 0))), (o1, .inr (1, [.ref o2, .long 0, .int (-1), .int (nI 0), .int 0])), (o2, .inl (G.2.1, 16, .inr (.inl (fun _ => 0)))), (t1, .inr (1, [.ref t2, .long 0, .int (-1), .int (nI 0), .int 0])), (t2, .inl (G.2.1, 16, .inr (.inl (fun _ => 0)))), (mm, .inr (3, [.int 0, .long ((c0 L xs).toInt64), .long 0, .int (nI 0), .int 0, .int 0, .int (nI 0), .ref w1, .ref w2, .ref w3])), (w1, .inl (G.2.2.1, 100, .inl (fun _ => 0))), (w2, .inl (G.2.2.2, 100, .inl (fun _ => 0))), (w3, .inl (G.2.2.1, 10, .inl ink0))] H := hP
  have hD : va_D A [(x, .inr (0, [.ref d1, .ref v1, .ref o1, .ref t1, .long ((c0 L xs).toInt64), .int 0])), (d1, .inr (1, [.ref d2, .long 0, .int (-1), .int (nI 0), .int 0])), (d2, .inl (G.2.1, 16, .inr (.inl (fun _ => 0)))), (v1, .inr (2, [.ref v2, .ref v3, .int (nI 0)])), (v2, .inl (G.2.2.1, 100, .inl (fun _ => 0))), (v3, .inl (G.2.2.2, 100, .inl (fun _ => 0))), (o1, .inr (1, [.ref o2, .long 0, .int (-1), .int (nI 0), .int 0])), (o2, .inl (G.2.1, 16, .inr (.inl (fun _ => 0)))), (t1, .inr (1, [.ref t2, .long 0, .int (-1), .int (nI 0), .int 0])), (t2, .inl (G.2.1, 16, .inr (.inl (fun _ => 0)))), (mm, .inr (3, [.int 0, .long ((c0 L xs).toInt64), .long 0, .int (nI 0), .int 0, .int 0, .int (nI 0), .ref w1, .ref w2, .ref w3])), (w1, .inl (G.2.2.1, 100, .inl (fun _ => 0))), (w2, .inl (G.2.2.2, 100, .inl (fun _ => 0))), (w3, .inl (G.2.2.1, 10, .inl ink0))] := hD
  refine lv_astore_n (lv' := [(2, .ref mm), (1, .ref x), (0, .ref b)]) hx hb d_L_law_25 rfl hl (by decide) rfl (fun ls hl => ?_)
  refine lv_iconst (v := 1) hx hb d_L_law_26 (by decide) ?_
  refine lv_istore_n (lv' := [(3, .int 1), (2, .ref mm), (1, .ref x), (0, .ref b)]) hx hb d_L_law_27 rfl hl (by decide) rfl (fun ls hl => ?_)
  refine W.widen (k := 14) (n := 492) (Nat.le_of_ble_eq_true rfl) (Nat.le_of_ble_eq_true rfl) ?_
  have hWd : Wd G A x mm H := ⟨d1, d2, v1, v2, v3, o1, t1, 0, (-1), 0, 0, (fun _ => 0), (fun _ => 0), (fun _ => 0), 0, (c0 L xs).toInt64, 0, o2, 0, (-1), 0, 0, (fun _ => 0), t2, 0, (-1), 0, 0, (fun _ => 0), w1, w2, w3, 0, 0, hP.sub [0, 1, 2, 3, 4, 5, 6, 7, 8, 9, 10, 11, 12, 13] rfl, hD.sub [0, 1, 2, 3, 4, 5, 6, 7, 8, 9, 10, 11, 12, 13] (by decide) rfl, rel_0, by omega, by omega⟩
  exact law_loop hL ⟨hx, hb, hr, hml, hown, ht, hKN, hX, hbl, hlocks, hA, hbA, hZ, hT⟩ hA2 (L + 2) 1 H locs ls (by omega) (by omega) hWd hS (lv_sub hl [3, 2, 1, 0] rfl)
