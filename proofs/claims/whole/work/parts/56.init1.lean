/-! constructors: clerk, place, judge -/
def P0 : Pl := fun _ _ => 0
theorem c_X0_init {w : Wd} {p k m a b : Nat} {C : Nat → Ce} (hk : C k = .inr (0, df0)) (hm : k < m) : K_X0_init 0 0 [.ref (p + k), .ref a, .ref b] (wb w p m C) (RVE (fun u => u = wb w p m (cu C k (.inr (0, [.ref a, .ref b]))))) := by
  refine Con.mk [some (.ref (p + k)), some (.ref a), some (.ref b)] (by decide) rfl rfl (Nat.le_of_ble_eq_true rfl) (fun X h hR hnm => ?_)
  rw [← cu_id hk]
  refine V.aload0 h 1 dX0_init_0 rfl (V.objInit h 4 dX0_init_1 rfl k144 (Nat.le_of_ble_eq_true rfl) (Nat.le_of_ble_eq_true rfl) (V.aload0 h 5 dX0_init_4 rfl (V.aload1 h 6 dX0_init_5 rfl (V.fX0 h 0 9 dX0_init_6 rfl hnm rfl k145 rfl rfl rfl rfl (wb_o hm) rfl (V.at _ (wb_p (by omega)) (V.aload0 h 10 dX0_init_9 rfl (V.aload2 h 11 dX0_init_10 rfl ?_)))))))
  refine V.fX0 h 1 14 dX0_init_11 rfl hnm rfl k146 rfl rfl rfl rfl (wb_o hm) rfl (V.at _ (wb_p (by omega)) ?_)
  refine V.vret h hR dX0_init_14 ?_
  exact ⟨rfl, rfl⟩
theorem c_X2_init {w : Wd} {p k : Nat} {C : Nat → Ce} (hk : C k = .inr (2, df2)) : K_X2_init 9 98 [.ref (p + k)] (wb w p (k + 1) C) (RVE (fun u => ∃ C', (∀ i, i < k → C' i = C i) ∧ (∀ t, t < 10 → C' (k + t) = pcl (p + k) P0 t) ∧ u = wb w p (k + 10) C')) := by
  refine Con.mk [some (.ref (p + k))] (by decide) rfl rfl (Nat.le_of_ble_eq_true rfl) (fun X h hR hnm => ?_)
  rw [← cu_id hk] at hR ⊢
  refine V.aload0 h 1 dX2_init_0 rfl (V.objInit h 4 dX2_init_1 rfl k22 (Nat.le_of_ble_eq_true rfl) (Nat.le_of_ble_eq_true rfl) (V.aload0 h 5 dX2_init_4 rfl (V.iconst h 6 dX2_init_5 rfl ic1_4 (V.bai h 4 (k + 2) 8 dX2_init_6 rfl rfl (by omega) (by decide) rfl (Nat.le_of_ble_eq_true rfl) (Nat.le_of_ble_eq_true rfl) (Nat.le_of_ble_eq_true rfl) (V.fX2 h 1 11 dX2_init_8 rfl hnm rfl k26 rfl rfl rfl rfl (wb_o (by omega)) rfl (V.at _ (wb_p (by omega)) (V.aload0 h 12 dX2_init_11 rfl ?_)))))))
  refine V.bipush h 14 dX2_init_12 rfl ic2_8 (V.bai h 8 (k + 3) 16 dX2_init_14 rfl rfl (by omega) (by decide) rfl (Nat.le_of_ble_eq_true rfl) (Nat.le_of_ble_eq_true rfl) (Nat.le_of_ble_eq_true rfl) (V.fX2 h 4 19 dX2_init_16 rfl hnm rfl k36 rfl rfl rfl rfl (wb_o (by omega)) rfl (V.at _ (wb_p (by omega)) (V.aload0 h 20 dX2_init_19 rfl (V.bipush h 22 dX2_init_20 rfl ic2_8 (V.bai h 8 (k + 4) 24 dX2_init_22 rfl rfl (by omega) (by decide) rfl (Nat.le_of_ble_eq_true rfl) (Nat.le_of_ble_eq_true rfl) (Nat.le_of_ble_eq_true rfl) (V.fX2 h 5 27 dX2_init_24 rfl hnm rfl k39 rfl rfl rfl rfl (wb_o (by omega)) rfl ?_)))))))
  refine V.at _ (wb_p (by omega)) (V.aload0 h 28 dX2_init_27 rfl (V.bipush h 30 dX2_init_28 rfl ic2_13 (V.bai h 13 (k + 5) 32 dX2_init_30 rfl rfl (by omega) (by decide) rfl (Nat.le_of_ble_eq_true rfl) (Nat.le_of_ble_eq_true rfl) (Nat.le_of_ble_eq_true rfl) (V.fX2 h 8 35 dX2_init_32 rfl hnm rfl k50 rfl rfl rfl rfl (wb_o (by omega)) rfl (V.at _ (wb_p (by omega)) (V.aload0 h 36 dX2_init_35 rfl (V.bipush h 38 dX2_init_36 rfl ic2_13 ?_)))))))
  refine V.bai h 13 (k + 6) 40 dX2_init_38 rfl rfl (by omega) (by decide) rfl (Nat.le_of_ble_eq_true rfl) (Nat.le_of_ble_eq_true rfl) (Nat.le_of_ble_eq_true rfl) (V.fX2 h 9 43 dX2_init_40 rfl hnm rfl k54 rfl rfl rfl rfl (wb_o (by omega)) rfl (V.at _ (wb_p (by omega)) (V.aload0 h 44 dX2_init_43 rfl (V.bipush h 46 dX2_init_44 rfl ic2_13 (V.bai h 13 (k + 7) 48 dX2_init_46 rfl rfl (by omega) (by decide) rfl (Nat.le_of_ble_eq_true rfl) (Nat.le_of_ble_eq_true rfl) (Nat.le_of_ble_eq_true rfl) (V.fX2 h 10 51 dX2_init_48 rfl hnm rfl k58 rfl rfl rfl rfl (wb_o (by omega)) rfl (V.at _ (wb_p (by omega)) ?_)))))))
  refine V.aload0 h 52 dX2_init_51 rfl (V.bipush h 54 dX2_init_52 rfl ic2_13 (V.bai h 13 (k + 8) 56 dX2_init_54 rfl rfl (by omega) (by decide) rfl (Nat.le_of_ble_eq_true rfl) (Nat.le_of_ble_eq_true rfl) (Nat.le_of_ble_eq_true rfl) (V.fX2 h 11 59 dX2_init_56 rfl hnm rfl k62 rfl rfl rfl rfl (wb_o (by omega)) rfl (V.at _ (wb_p (by omega)) (V.aload0 h 60 dX2_init_59 rfl (V.bipush h 62 dX2_init_60 rfl ic2_13 (V.bai h 13 (k + 9) 64 dX2_init_62 rfl rfl (by omega) (by decide) rfl (Nat.le_of_ble_eq_true rfl) (Nat.le_of_ble_eq_true rfl) (Nat.le_of_ble_eq_true rfl) ?_)))))))
  refine V.fX2 h 12 67 dX2_init_64 rfl hnm rfl k66 rfl rfl rfl rfl (wb_o (by omega)) rfl (V.at _ (wb_p (by omega)) (V.aload0 h 68 dX2_init_67 rfl (V.bipush h 70 dX2_init_68 rfl ic2_13 (V.bai h 13 (k + 10) 72 dX2_init_70 rfl rfl (by omega) (by decide) rfl (Nat.le_of_ble_eq_true rfl) (Nat.le_of_ble_eq_true rfl) (Nat.le_of_ble_eq_true rfl) (V.fX2 h 13 75 dX2_init_72 rfl hnm rfl k70 rfl rfl rfl rfl (wb_o (by omega)) rfl (V.at _ (wb_p (by omega)) ?_))))))
  refine V.vret h hR dX2_init_75 ?_
  refine ⟨rfl, _, ?_, ?_, rfl⟩
  · intro i hi; repeat rw [cu_ne (by omega)]
  · intro t ht
    match t, ht with
    | 0, _ => exact (cu_self (k := k)).trans rfl
    | 1, _ => repeat rw [cu_ne (by omega)]
              rw [cu_self]; rfl
    | 2, _ => repeat rw [cu_ne (by omega)]
              rw [cu_self]; rfl
    | 3, _ => repeat rw [cu_ne (by omega)]
              rw [cu_self]; rfl
    | 4, _ => repeat rw [cu_ne (by omega)]
              rw [cu_self]; rfl
    | 5, _ => repeat rw [cu_ne (by omega)]
              rw [cu_self]; rfl
    | 6, _ => repeat rw [cu_ne (by omega)]
              rw [cu_self]; rfl
    | 7, _ => repeat rw [cu_ne (by omega)]
              rw [cu_self]; rfl
    | 8, _ => repeat rw [cu_ne (by omega)]
              rw [cu_self]; rfl
    | 9, _ => repeat rw [cu_ne (by omega)]
              rw [cu_self]; rfl
    | n + 10, h => omega
def z4 : Nat → Int32 := fun _ => 0
theorem c_X1_init {w : Wd} {p k a : Nat} {C : Nat → Ce} (hk : C k = .inr (1, df1)) : K_X1_init 2 8 [.ref (p + k), .ref a] (wb w p (k + 1) C) (RVE (fun u => ∃ C', (∀ i, i < k → C' i = C i) ∧ (∀ t, t < 3 → C' (k + t) = jcl a (p + k) (jr z4 z4 0) t) ∧ u = wb w p (k + 3) C')) := by
  refine Con.mk [some (.ref (p + k)), some (.ref a)] (by decide) rfl rfl (Nat.le_of_ble_eq_true rfl) (fun X h hR hnm => ?_)
  rw [← cu_id hk] at hR ⊢
  refine V.aload0 h 1 dX1_init_0 rfl (V.objInit h 4 dX1_init_1 rfl k125 (Nat.le_of_ble_eq_true rfl) (Nat.le_of_ble_eq_true rfl) (V.aload0 h 5 dX1_init_4 rfl (V.iconst h 6 dX1_init_5 rfl ic1_4 (V.bai h 4 (k + 2) 8 dX1_init_6 rfl rfl (by omega) (by decide) rfl (Nat.le_of_ble_eq_true rfl) (Nat.le_of_ble_eq_true rfl) (Nat.le_of_ble_eq_true rfl) (V.fX1 h 1 11 dX1_init_8 rfl hnm rfl k127 rfl rfl rfl rfl (wb_o (by omega)) rfl (V.at _ (wb_p (by omega)) (V.aload0 h 12 dX1_init_11 rfl ?_)))))))
  refine V.iconst h 13 dX1_init_12 rfl ic1_4 (V.bai h 4 (k + 3) 15 dX1_init_13 rfl rfl (by omega) (by decide) rfl (Nat.le_of_ble_eq_true rfl) (Nat.le_of_ble_eq_true rfl) (Nat.le_of_ble_eq_true rfl) (V.fX1 h 2 18 dX1_init_15 rfl hnm rfl k128 rfl rfl rfl rfl (wb_o (by omega)) rfl (V.at _ (wb_p (by omega)) (V.aload0 h 19 dX1_init_18 rfl (V.aload1 h 20 dX1_init_19 rfl (V.fX1 h 0 23 dX1_init_20 rfl hnm rfl k126 rfl rfl rfl rfl (wb_o (by omega)) rfl (V.at _ (wb_p (by omega)) ?_)))))))
  refine V.vret h hR dX1_init_23 ?_
  refine ⟨rfl, _, ?_, ?_, rfl⟩
  · intro i hi; repeat rw [cu_ne (by omega)]
  · intro t ht
    match t, ht with
    | 0, _ => exact (cu_self (k := k)).trans rfl
    | 1, _ => repeat rw [cu_ne (by omega)]
              rw [cu_self]; rfl
    | 2, _ => repeat rw [cu_ne (by omega)]
              rw [cu_self]; rfl
    | n + 3, h => omega
