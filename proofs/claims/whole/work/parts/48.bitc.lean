/-! how many are in a set: the machine's way -/
def ush (x y : Int32) : Int32 := (x.toUInt32 >>> (y.toUInt32 &&& Int32.toUInt32 31)).toInt32
def bc1 (x : Int32) : Int32 := x - (ush x 1 &&& 1431655765)
def bc2 (x : Int32) : Int32 := (x &&& 858993459) + (ush x 2 &&& 858993459)
def bc3 (x : Int32) : Int32 := (x + ush x 4) &&& 252645135
def bc4 (x : Int32) : Int32 := x + ush x 8
def bc5 (x : Int32) : Int32 := x + ush x 16
theorem bc_cn : ∀ a, a < 64 → ∀ b, b < 64 → bc5 (bc4 (bc3 (bc2 (bc1 (nI (64 * a + b)))))) &&& 63 = cnt (nI (64 * a + b)) := by decide +kernel
theorem bc_cnt (m : Nat) (h : m < 4096) : bc5 (bc4 (bc3 (bc2 (bc1 (nI m))))) &&& 63 = cnt (nI m) := by
  have h1 := bc_cn (m / 64) (by omega) (m % 64) (by omega)
  rw [show 64 * (m / 64) + m % 64 = m by omega] at h1
  exact h1
theorem c_bitCount {w : Wd} {S : Int32} (hS : lo12 S) : K_J6_bitCount_0f7a4 [.int S] w (RI (cnt S) w) := by
  obtain ⟨m, hm, rfl⟩ := lo12_nat hS
  refine Con.mk [some (.int (nI m))] (by decide) rfl rfl (Nat.le_of_ble_eq_true rfl) (fun X h hR hnm => ?_)
  refine V.iload0 h 1 dJ6_bitCount_0f7a4_0 rfl (V.iload0 h 2 dJ6_bitCount_0f7a4_1 rfl (V.iconst h 3 dJ6_bitCount_0f7a4_2 rfl ic1_1 (V.iushr h 4 dJ6_bitCount_0f7a4_3 rfl (V.ldcw h 7 dJ6_bitCount_0f7a4_4 rfl k423 (V.iand h 8 dJ6_bitCount_0f7a4_7 rfl (V.isub h 9 dJ6_bitCount_0f7a4_8 rfl ?_))))))
  refine V.top (bc1 (nI m)) rfl ?_
  refine V.istore0 h 10 dJ6_bitCount_0f7a4_9 rfl rfl (V.iload0 h 11 dJ6_bitCount_0f7a4_10 rfl (V.ldcw h 14 dJ6_bitCount_0f7a4_11 rfl k424 (V.iand h 15 dJ6_bitCount_0f7a4_14 rfl (V.iload0 h 16 dJ6_bitCount_0f7a4_15 rfl (V.iconst h 17 dJ6_bitCount_0f7a4_16 rfl ic1_2 (V.iushr h 18 dJ6_bitCount_0f7a4_17 rfl (V.ldcw h 21 dJ6_bitCount_0f7a4_18 rfl k424 ?_)))))))
  refine V.iand h 22 dJ6_bitCount_0f7a4_21 rfl (V.iadd h 23 dJ6_bitCount_0f7a4_22 rfl ?_)
  refine V.top (bc2 (bc1 (nI m))) rfl ?_
  refine V.istore0 h 24 dJ6_bitCount_0f7a4_23 rfl rfl (V.iload0 h 25 dJ6_bitCount_0f7a4_24 rfl (V.iload0 h 26 dJ6_bitCount_0f7a4_25 rfl (V.iconst h 27 dJ6_bitCount_0f7a4_26 rfl ic1_4 (V.iushr h 28 dJ6_bitCount_0f7a4_27 rfl (V.iadd h 29 dJ6_bitCount_0f7a4_28 rfl (V.ldcw h 32 dJ6_bitCount_0f7a4_29 rfl k425 (V.iand h 33 dJ6_bitCount_0f7a4_32 rfl ?_)))))))
  refine V.top (bc3 (bc2 (bc1 (nI m)))) rfl ?_
  refine V.istore0 h 34 dJ6_bitCount_0f7a4_33 rfl rfl (V.iload0 h 35 dJ6_bitCount_0f7a4_34 rfl (V.iload0 h 36 dJ6_bitCount_0f7a4_35 rfl (V.bipush h 38 dJ6_bitCount_0f7a4_36 rfl ic2_8 (V.iushr h 39 dJ6_bitCount_0f7a4_38 rfl (V.iadd h 40 dJ6_bitCount_0f7a4_39 rfl ?_)))))
  refine V.top (bc4 (bc3 (bc2 (bc1 (nI m))))) rfl ?_
  refine V.istore0 h 41 dJ6_bitCount_0f7a4_40 rfl rfl (V.iload0 h 42 dJ6_bitCount_0f7a4_41 rfl (V.iload0 h 43 dJ6_bitCount_0f7a4_42 rfl (V.bipush h 45 dJ6_bitCount_0f7a4_43 rfl ic2_16 (V.iushr h 46 dJ6_bitCount_0f7a4_45 rfl (V.iadd h 47 dJ6_bitCount_0f7a4_46 rfl ?_)))))
  refine V.top (bc5 (bc4 (bc3 (bc2 (bc1 (nI m)))))) rfl ?_
  refine V.istore0 h 48 dJ6_bitCount_0f7a4_47 rfl rfl (V.iload0 h 49 dJ6_bitCount_0f7a4_48 rfl (V.bipush h 51 dJ6_bitCount_0f7a4_49 rfl ic2_63 (V.iand h 52 dJ6_bitCount_0f7a4_51 rfl ?_)))
  refine V.iret h hR dJ6_bitCount_0f7a4_52 ?_
  exact RI_r (bc_cnt m hm)
