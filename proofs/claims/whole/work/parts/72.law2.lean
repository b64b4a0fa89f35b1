/-! the law: its loop, its beginning -/
theorem LR.le {w : Wd} {c B B' : Nat} (h : LR w c B) (hB : B ≤ B') : LR w c B' := by
  obtain ⟨n, P, S, H, M, s, l, a, b, d, e, f, g⟩ := h
  exact ⟨n, P, S, H, M, s, l, a, b, d, e, f.le hB, g.le hB⟩
theorem law_loop {X : CX} {b L c : Nat} {xsc : Nat → Int32} (h : Cx X cL_law RL 12 600000 7302250) (hXs : va_X b L xsc X.s X.s.heap) (hbl : b < X.s.heap.size) (hbB : b < X.B) (hL : L ≤ 3072) (fin : ∀ (i : Nat) (w : Wd), V X 91 1813 573 [some (.ref b), some (.ref c), some (.ref (c + 84)), some (.int (nI i))] [] w) :
    ∀ (d i : Nat) (w : Wd), i ≤ L → L ≤ i + d → LR w c (14 * i) → V X 91 1813 18 [some (.ref b), some (.ref c), some (.ref (c + 84)), some (.int (nI i))] [] w := by
  intro d
  induction d with
  | zero =>
    intro i w hiL hd hR
    have hgt : nI L - 6 < nI i := by
      by_cases h6 : 6 ≤ L
      · rw [show nI L - (6 : Int32) = nI (L - 6) from pk_sub (b := 6) h6]; exact nI_lt (by omega) (by omega)
      · exact Int32.lt_of_lt_of_le (pk_sneg (a := L) (b := 6) (by decide) (by omega)) (nI_pos' (by omega))
    refine V.iload3 h 19 dL_law_18 rfl (V.aload0 h 20 dL_law_19 rfl (V.slen h 21 dL_law_20 rfl hXs hbl hbB (V.bipush h 23 dL_law_21 rfl ic2_6 (V.isub h 24 dL_law_23 rfl ?_))))
    refine V.icmp_gt h 573 27 dL_law_24 rfl rfl (fun _ => ?_) (fun q => absurd hgt q)
    exact fin i w
  | succ d ih =>
    intro i w hiL hd hR
    by_cases hi : i + 6 ≤ L
    · have hng : ¬ nI L - 6 < nI i := by
        rw [show nI L - (6 : Int32) = nI (L - 6) from pk_sub (b := 6) (by omega)]; exact nI_nlt (by omega) (by omega)
      have nx : ∀ w', LR w' c (14 * (i + 6)) → V X 91 1813 567 [some (.ref b), some (.ref c), some (.ref (c + 84)), some (.int (nI i))] [] w' := by
        intro w' hR'
        refine V.iinc3 h 570 dL_law_567 rfl rfl rfl (V.goto h 18 dL_law_570 rfl ?_)
        rw [show nI i + Int32.ofInt 6 = nI (i + 6) from nI_lit i 6]
        exact ih (i + 6) w' (by omega) (by omega) hR'
      refine V.iload3 h 19 dL_law_18 rfl (V.aload0 h 20 dL_law_19 rfl (V.slen h 21 dL_law_20 rfl hXs hbl hbB (V.bipush h 23 dL_law_21 rfl ic2_6 (V.isub h 24 dL_law_23 rfl ?_))))
      refine V.icmp_gt h 573 27 dL_law_24 rfl rfl (fun q => absurd q hng) (fun _ => ?_)
      refine V.aload0 h 28 dL_law_27 rfl (V.iload3 h 29 dL_law_28 rfl (V.sld h 30 dL_law_29 rfl hXs hbl hbB (si0 hi hL) (V.bipush h 32 dL_law_30 rfl ic2_31 (V.iand h 33 dL_law_32 rfl ?_))))
      refine V.tcase (off := 83) h (0 : Int32) 116 dL_law_33 (by decide) (by decide +kernel) rfl (fun c33_0 => ?_) (fun c33_0 => ?_)
      · exact law_k0 h hXs hbl hbB hi hL hR nx
      refine V.tcase (off := 106) h (1 : Int32) 139 dL_law_33 (by decide) (by decide +kernel) rfl (fun c33_1 => ?_) (fun c33_1 => ?_)
      · exact law_k1 h hXs hbl hbB hi hL hR nx
      refine V.tcase (off := 129) h (2 : Int32) 162 dL_law_33 (by decide) (by decide +kernel) rfl (fun c33_2 => ?_) (fun c33_2 => ?_)
      · exact law_k2 h hXs hbl hbB hi hL hR nx
      refine V.tcase (off := 192) h (3 : Int32) 225 dL_law_33 (by decide) (by decide +kernel) rfl (fun c33_3 => ?_) (fun c33_3 => ?_)
      · exact law_k3 h hXs hbl hbB hi hL hR nx
      refine V.tcase (off := 215) h (4 : Int32) 248 dL_law_33 (by decide) (by decide +kernel) rfl (fun c33_4 => ?_) (fun c33_4 => ?_)
      · exact law_k4 h hXs hbl hbB hi hL hR nx
      refine V.tcase (off := 238) h (5 : Int32) 271 dL_law_33 (by decide) (by decide +kernel) rfl (fun c33_5 => ?_) (fun c33_5 => ?_)
      · exact law_k5 h hXs hbl hbB hi hL hR nx
      refine V.tcase (off := 271) h (6 : Int32) 304 dL_law_33 (by decide) (by decide +kernel) rfl (fun c33_6 => ?_) (fun c33_6 => ?_)
      · exact law_k6 h hXs hbl hbB hi hL hR nx
      refine V.tcase (off := 304) h (7 : Int32) 337 dL_law_33 (by decide) (by decide +kernel) rfl (fun c33_7 => ?_) (fun c33_7 => ?_)
      · exact law_k7 h hXs hbl hbB hi hL hR nx
      refine V.tcase (off := 337) h (8 : Int32) 370 dL_law_33 (by decide) (by decide +kernel) rfl (fun c33_8 => ?_) (fun c33_8 => ?_)
      · exact law_k8 h hXs hbl hbB hi hL hR nx
      refine V.tcase (off := 360) h (9 : Int32) 393 dL_law_33 (by decide) (by decide +kernel) rfl (fun c33_9 => ?_) (fun c33_9 => ?_)
      · exact law_k9 h hXs hbl hbB hi hL hR nx
      refine V.tcase (off := 393) h (10 : Int32) 426 dL_law_33 (by decide) (by decide +kernel) rfl (fun c33_10 => ?_) (fun c33_10 => ?_)
      · exact law_k10 h hXs hbl hbB hi hL hR nx
      refine V.tcase (off := 426) h (11 : Int32) 459 dL_law_33 (by decide) (by decide +kernel) rfl (fun c33_11 => ?_) (fun c33_11 => ?_)
      · exact law_k11 h hXs hbl hbB hi hL hR nx
      refine V.tcase (off := 449) h (12 : Int32) 482 dL_law_33 (by decide) (by decide +kernel) rfl (fun c33_12 => ?_) (fun c33_12 => ?_)
      · exact law_k12 h hXs hbl hbB hi hL hR nx
      refine V.tcase (off := 462) h (13 : Int32) 495 dL_law_33 (by decide) (by decide +kernel) rfl (fun c33_13 => ?_) (fun c33_13 => ?_)
      · exact law_k13 h hXs hbl hbB hi hL hR nx
      refine V.tcase (off := 485) h (14 : Int32) 518 dL_law_33 (by decide) (by decide +kernel) rfl (fun c33_14 => ?_) (fun c33_14 => ?_)
      · exact law_k14 h hXs hbl hbB hi hL hR nx
      refine V.tcase (off := 498) h (15 : Int32) 531 dL_law_33 (by decide) (by decide +kernel) rfl (fun c33_15 => ?_) (fun c33_15 => ?_)
      · exact law_k15 h hXs hbl hbB hi hL hR nx
      refine V.tcase (off := 521) h (16 : Int32) 554 dL_law_33 (by decide) (by decide +kernel) rfl (fun c33_16 => ?_) (fun c33_16 => ?_)
      · exact law_k16 h hXs hbl hbB hi hL hR nx
      refine V.tdflt h 567 dL_law_33 (by have e0 := lv_neT (a := 0) c33_0 (by decide); have e1 := lv_neT (a := 1) c33_1 (by decide); have e2 := lv_neT (a := 2) c33_2 (by decide); have e3 := lv_neT (a := 3) c33_3 (by decide); have e4 := lv_neT (a := 4) c33_4 (by decide); have e5 := lv_neT (a := 5) c33_5 (by decide); have e6 := lv_neT (a := 6) c33_6 (by decide); have e7 := lv_neT (a := 7) c33_7 (by decide); have e8 := lv_neT (a := 8) c33_8 (by decide); have e9 := lv_neT (a := 9) c33_9 (by decide); have e10 := lv_neT (a := 10) c33_10 (by decide); have e11 := lv_neT (a := 11) c33_11 (by decide); have e12 := lv_neT (a := 12) c33_12 (by decide); have e13 := lv_neT (a := 13) c33_13 (by decide); have e14 := lv_neT (a := 14) c33_14 (by decide); have e15 := lv_neT (a := 15) c33_15 (by decide); have e16 := lv_neT (a := 16) c33_16 (by decide); omega) rfl ?_
      exact nx w (hR.le (by omega))
    · have hgt : nI L - 6 < nI i := by
        by_cases h6 : 6 ≤ L
        · rw [show nI L - (6 : Int32) = nI (L - 6) from pk_sub (b := 6) h6]; exact nI_lt (by omega) (by omega)
        · exact Int32.lt_of_lt_of_le (pk_sneg (a := L) (b := 6) (by decide) (by omega)) (nI_pos' (by omega))
      refine V.iload3 h 19 dL_law_18 rfl (V.aload0 h 20 dL_law_19 rfl (V.slen h 21 dL_law_20 rfl hXs hbl hbB (V.bipush h 23 dL_law_21 rfl ic2_6 (V.isub h 24 dL_law_23 rfl ?_))))
      refine V.icmp_gt h 573 27 dL_law_24 rfl rfl (fun _ => ?_) (fun q => absurd hgt q)
      exact fin i w
theorem SI0 (B : Nat) : SI P0 (fun _ => 0) B := by
  have ht : ∀ k, sThere (fun _ => 0) k = false := fun k => rfl
  have e6 : vP (fun _ => 0) 6 0 = 0 := lo12_ext (open_lo _) lo12_0 fun k hk => by rw [open_bt _ hk, ht, bt_0]; rfl
  have e7 : vP (fun _ => 0) 7 0 = 0 := lo12_ext (called_lo _) lo12_0 fun k hk => by rw [called_bt _ hk, ht, bt_0]; rfl
  have e2 : vP (fun _ => 0) 2 0 = 0 := by
    apply bt_ext; intro k hk
    show Bt (mk _ 4) k = _
    rw [bt_mk _ _ _ (by decide), bt_0]
    show (decide (k < 4) && decide ((0 : Int32) = 1)) = false
    rw [show decide ((0 : Int32) = 1) = false by decide, Bool.and_false]
  refine ⟨⟨⟨rfl, e2.symm, rfl, e6.symm, e7.symm, rfl, rfl, rfl⟩, fun _ _ => rfl, fun _ _ => ⟨rfl, rfl⟩, (fun k _ h => by rw [ht] at h; cases h)⟩, fun _ _ => Or.inl rfl, 0, Nat.zero_le _, 0, 0, fun _ => 0, by decide, by decide, rfl, rfl, rfl, fun j hj => absurd hj (by omega), fun _ _ _ => rfl, (fun k _ h => by rw [ht] at h; cases h), (fun k j _ _ h => by rw [ht] at h; cases h)⟩
theorem LR0 {w : Wd} {B : Nat} {C1 C2 : Nat → Ce} {σ : Nat → Nat} {H : Nat → Pl} (h : CI (wb w B 84 C1) B 0 P0 P0 σ H) (hL : ∀ i, i < 84 → C2 i = C1 i) (hM : ∀ t, t < 7 → C2 (84 + t) = mcl (B + 84) (us P0 6 (-1)) t) : LR (wb w B 91 C2) B 0 := by
  refine ⟨0, P0, P0, H, us P0 6 (-1), fun _ => 0, 0, ⟨σ, h.ag fun q hq => ?_⟩, fun t ht => ?_, rfl, ⟨⟨rfl, by decide, fun k => ⟨0, by decide, rfl⟩⟩, rfl, rfl⟩, SI0 0, by decide, rfl, fun i hi => absurd hi (by omega)⟩
  · by_cases hq2 : q < B
    · rw [wb_out (Or.inl hq2), wb_out (Or.inl hq2)]
    · obtain ⟨j, rfl⟩ : ∃ j, q = B + j := ⟨q - B, by omega⟩
      rw [wb_in (by omega), wb_in (by omega), hL j (by omega)]
  · rw [show B + 84 + t = B + (84 + t) by omega, wb_in (by omega), hM t ht, show ua (us P0 6 (-1)) 0 (fun _ => 0) = us P0 6 (-1) from ua_id (us P0 6 (-1)) 0]
theorem law_all {X : CX} {b L : Nat} {xsc : Nat → Int32} {C0 : Nat → Ce} {w : Wd} (h : Cx X cL_law RL 12 600000 7302250) (hXs : va_X b L xsc X.s X.s.heap) (hbl : b < X.s.heap.size) (hbB : b < X.B) (hL : L ≤ 3072) (fin : ∀ (lv : List (Option Value)) (w : Wd), V X 91 1813 574 lv [.int 1] w) : V X 0 0 0 [some (.ref b), none, none, none] [] (wb w X.B 0 C0) := by
  refine V.new h df4 3 dL_law_0 rfl inX4 (ci := 4) rfl tyX4_ok k9 k10 k1 df4_ok (Nat.le_of_ble_eq_true rfl) (Nat.le_of_ble_eq_true rfl) ?_
  rw [wb_new]
  refine V.dup h 4 dL_law_3 rfl rfl ?_
  refine V.callIev (As := []) (st := [.ref _]) h 7 dL_law_4 rfl k13 k11 k12 k1 rfl hd_X4_init ⟨(Nat.le_of_ble_eq_true rfl), (Nat.le_of_ble_eq_true rfl), (Nat.le_of_ble_eq_true rfl), (Nat.le_of_ble_eq_true rfl)⟩ (Nat.le_of_ble_eq_true rfl) (c_X4_init (p := X.B) (k := 0) cu_self) rfl (fun u hu => ?_)
  obtain ⟨C1, -, rfl, hCI⟩ := hu
  refine V.astore1 h 8 dL_law_7 rfl rfl ?_
  refine V.new h df5 11 dL_law_8 rfl inX5 (ci := 5) rfl tyX5_ok k538 k539 k6 df5_ok (Nat.le_of_ble_eq_true rfl) (Nat.le_of_ble_eq_true rfl) ?_
  rw [wb_new]
  refine V.dup h 12 dL_law_11 rfl rfl ?_
  refine V.callIev (As := []) (st := [.ref _]) h 15 dL_law_12 rfl k542 k540 k541 k6 rfl hd_X5_init ⟨(Nat.le_of_ble_eq_true rfl), (Nat.le_of_ble_eq_true rfl), (Nat.le_of_ble_eq_true rfl), (Nat.le_of_ble_eq_true rfl)⟩ (Nat.le_of_ble_eq_true rfl) (c_X5_init (p := X.B) (k := 84) cu_self) rfl (fun u hu => ?_)
  obtain ⟨C2, hL2, hM2, rfl⟩ := hu
  refine V.astore2 h 16 dL_law_15 rfl rfl ?_
  refine V.iconst h 17 dL_law_16 rfl ic1_0 (V.istore3 h 18 dL_law_17 rfl rfl ?_)
  have hLR : LR (wb w X.B 91 C2) X.B (14 * 0) := LR0 hCI (fun i hi => by rw [hL2 i hi, cu_ne (by omega)]) hM2
  exact law_loop h hXs hbl hbB hL (fun i w => V.iconst h 574 dL_law_573 rfl ic1_1 (fin _ w)) L 0 _ (Nat.zero_le _) (by omega) hLR
theorem whole_start {p : Program} {e : Env} {s : State} {m : MethodId} {below : List Frame} {meth : Method} {c : Code} (l : Launch) (hflags : l.flags = flags0) {b L : Nat} {xs : Nat → Int32} (hL : L ≤ 3072) (C0 : lw_At p s m meth c b L xs) : W p l e room_1 s m #[Value.ref b] below meth c s.heap [] 0 0 (lw_Z below #[Value.ref b] s) (entryFrame m ([Value.ref b] : List Value).toArray 4) := by
  obtain ⟨hx, hb, hr, hml, hown, hts, hX, hbl, hlocks, hgv⟩ := id C0
  have htg : ∀ w ∈ GW, w.before #[Value.ref b] s = true := fun w hw => hts w (List.mem_filter.mp hw).1
  obtain ⟨c0, i0, K0⟩ := u_known (C := RX0) (T := TX0) (N := 2) (n := 2) htg inX0 (htg _ k140)
  obtain ⟨c1, i1, K1⟩ := u_known (C := RX1) (T := TX1) (N := 4) (n := 4) htg inX1 (htg _ k121)
  obtain ⟨c2, i2, K2⟩ := u_known (C := RX2) (T := TX2) (N := 17) (n := 17) htg inX2 (htg _ k18)
  obtain ⟨c3, i3, K3⟩ := u_known (C := RX3) (T := TX3) (N := 9) (n := 9) htg inX3 (htg _ k153)
  obtain ⟨c4, i4, K4⟩ := u_known (C := RX4) (T := TX4) (N := 7) (n := 7) htg inX4 (htg _ k10)
  obtain ⟨c5, i5, K5⟩ := u_known (C := RX5) (T := TX5) (N := 15) (n := 15) htg inX5 (htg _ k539)
  obtain ⟨a0, ka0, co0, f0, g0, h0⟩ := Cond.arrayClass_spec (htg _ k119)
  obtain ⟨a1, ka1, co1, f1, g1, h1⟩ := Cond.arrayClass_spec (htg _ k222)
  obtain ⟨a2, ka2, co2, f2, g2, h2⟩ := Cond.arrayClass_spec (htg _ k198)
  obtain ⟨co3, a3, ka3, q3, -, g3, h3, f3⟩ := Cond.arrayOver_spec (hts _ k199)
  obtain ⟨dC, dI, hKc⟩ : ∃ (dC : Nat → ClassId) (dI : Nat → Nat → Nat), ∀ (k : Nat) (q : vw_C), vwCl[k]? = some q → u_Kn s q.1 q.2.1 q.2.2 (dC k) (dI k) := by
    refine ⟨fun k => match k with | 0 => c0 | 1 => c1 | 2 => c2 | 3 => c3 | 4 => c4 | _ => c5, fun k => match k with | 0 => i0 | 1 => i1 | 2 => i2 | 3 => i3 | 4 => i4 | _ => i5, ?_⟩
    intro k q hq
    match k, hq with
    | 0, hq => cases hq; exact K0
    | 1, hq => cases hq; exact K1
    | 2, hq => cases hq; exact K2
    | 3, hq => cases hq; exact K3
    | 4, hq => cases hq; exact K4
    | 5, hq => cases hq; exact K5
    | k + 6, hq => simp [vwCl] at hq
  obtain ⟨gA, hgA0, hgA1, hgA2, hgA3⟩ : ∃ gA : Nat → ClassId, gA 0 = a0 ∧ gA 1 = a1 ∧ gA 2 = a2 ∧ gA 3 = a3 := ⟨fun k => match k with | 0 => a0 | 1 => a1 | 2 => a2 | _ => a3, rfl, rfl, rfl, rfl⟩
  have hK : kK ((dC, dI), gA) s := by
    refine ⟨⟨hKc, fun k q hq => ?_⟩, va_AO.of (hts _ k199), fun w hw hn => va_Nw.of (by cases w <;> first | rfl | cases hn) (hts w hw)⟩
    match k, hq with
    | 0, hq => cases hq; show ArrOfT s (gA 0) .int ∧ va_RA s (gA 0) .int; rw [hgA0]; exact ⟨fun n z => ⟨fun k h => (by cases h), ka0, g0, co0, h0⟩, f0⟩
    | 1, hq => cases hq; show ArrOfT s (gA 1) .long ∧ va_RA s (gA 1) .long; rw [hgA1]; exact ⟨fun n z => ⟨fun k h => (by cases h), ka1, g1, co1, h1⟩, f1⟩
    | 2, hq => cases hq; show ArrOfT s (gA 2) .char ∧ va_RA s (gA 2) .char; rw [hgA2]; exact ⟨fun n z => ⟨fun k h => (by cases h), ka2, g2, co2, h2⟩, f2⟩
    | 3, hq => cases hq; show ArrOfT s (gA 3) (.object RX2) ∧ va_RA s (gA 3) (.object RX2); rw [hgA3]; exact ⟨fun n z => ⟨fun k h => (by cases h), ka3, g3, co3, h3⟩, ka3, co3, g3, h3, q3, f3⟩
    | k + 4, hq => simp [tysG] at hq
  have hCx : Cx (p, l, e, room_1, s, m, #[Value.ref b], below, meth, c, ((dC, dI), gA), s.heap.size, lw_Z below #[Value.ref b] s) cL_law RL 12 600000 7302250 := ⟨hx, hb, hown, htg, hK, Nat.le_refl _, Nat.le_refl _, Nat.le_refl _, Nat.le_refl _, Nat.le_refl _⟩
  have fin : ∀ (lv : List (Option Value)) (w : Wd), V (p, l, e, room_1, s, m, #[Value.ref b], below, meth, c, ((dC, dI), gA), s.heap.size, lw_Z below #[Value.ref b] s) 91 1813 574 lv [.int 1] w := by
    intro lv w H locs ls hw hS hl
    refine va_forget (fun q hq => hS.2.2 q hq) ?_
    refine W.widen (k := 600000) (n := 7302250) (by omega) (by omega) ?_
    exact lw_ret hx hb hr hlocks dL_law_574
  have hV := law_all (w := (0, fun _ => none)) (C0 := fun _ => .inr (0, [])) hCx hX hbl hbl hL fin
  have hl := lv_entry ([.ref b]) (n := 4) (Nat.le_of_ble_eq_true rfl)
  rw [lg_entry_eq]
  refine hV s.heap [] _ ⟨rfl, Nat.le_refl _, [], fun _ => .inr (0, []), ?_, ?_, ?_⟩ va_S.rf ⟨hml.symm, ?_⟩
  · intro k q h; simp [va_pl] at h
  · exact ⟨fun i j p q h => by simp [va_pl] at h, fun k q h => by simp [va_pl] at h⟩
  · intro a e' h
    have : (wb (0, fun _ => none) s.heap.size 0 (fun _ => (.inr (0, []) : Ce))).2 a = none := wb_out (by omega)
    rw [this] at h; cases h
  · show lv_has _ c.maxLocals _
    rw [hml]
    exact hl
