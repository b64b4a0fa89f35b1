/-! the law: one call -/
theorem si0 {i L : Nat} (hi : i + 6 ≤ L) (hL : L ≤ 3072) : vp_in (nI i) L := by
  exact vp_in_nI (by omega) (by omega)
theorem si1 {i L : Nat} (hi : i + 6 ≤ L) (hL : L ≤ 3072) : vp_in (nI i + 1) L := by
  rw [show nI i + (1 : Int32) = nI (i + 1) from nI_lit i 1]
  exact vp_in_nI (by omega) (by omega)
theorem si2 {i L : Nat} (hi : i + 6 ≤ L) (hL : L ≤ 3072) : vp_in (nI i + 2) L := by
  rw [show nI i + (2 : Int32) = nI (i + 2) from nI_lit i 2]
  exact vp_in_nI (by omega) (by omega)
theorem si3 {i L : Nat} (hi : i + 6 ≤ L) (hL : L ≤ 3072) : vp_in (nI i + 3) L := by
  rw [show nI i + (3 : Int32) = nI (i + 3) from nI_lit i 3]
  exact vp_in_nI (by omega) (by omega)
theorem si4 {i L : Nat} (hi : i + 6 ≤ L) (hL : L ≤ 3072) : vp_in (nI i + 4) L := by
  rw [show nI i + (4 : Int32) = nI (i + 4) from nI_lit i 4]
  exact vp_in_nI (by omega) (by omega)
theorem si5 {i L : Nat} (hi : i + 6 ≤ L) (hL : L ≤ 3072) : vp_in (nI i + 5) L := by
  rw [show nI i + (5 : Int32) = nI (i + 5) from nI_lit i 5]
  exact vp_in_nI (by omega) (by omega)
theorem fl_add {s : Nat → Int32} {mm : Nat} {g : Int32} (h : Fl s) (hI : Inv s mm) : Fl (mAdd s g).2 := by
  have := fl_do (c := 103) (N := fun _ => g) (x := noX) h hI
  unfold mDo at this; rw [if_pos rfl] at this; exact this
theorem fl_come {s : Nat → Int32} {mm : Nat} {g : Int32} (h : Fl s) (hI : Inv s mm) : Fl (mCome s g).2 := by
  have := fl_do (c := 104) (N := fun _ => g) (x := noX) h hI
  unfold mDo at this; rw [if_neg (by decide), if_pos rfl] at this; exact this
theorem fl_mk {s : Nat → Int32} {mm : Nat} {i t a kd v : Int32} (h : Fl s) (hI : Inv s mm) : Fl (mMk s i t a kd v).2 := by
  have := fl_do (c := 112) (N := fun q => match q with | 0 => i | 1 => t | 2 => a | 3 => kd | _ => v) (x := noX) h hI
  unfold mDo at this; rw [if_neg (by decide), if_neg (by decide), if_pos rfl] at this; exact this
theorem fl_wd {s : Nat → Int32} {mm : Nat} {x : Ex} {g : Int32} (h : Fl s) (hI : Inv s mm) : Fl (mWd s x g).2 := by
  have := fl_do (c := 119) (N := fun _ => g) (x := x) h hI
  unfold mDo at this; rw [if_neg (by decide), if_neg (by decide), if_neg (by decide), if_pos rfl] at this; exact this
theorem fl_ca {s : Nat → Int32} {mm : Nat} {x : Ex} {g : Int32} (h : Fl s) (hI : Inv s mm) : Fl (mCa s x g).2 := by
  have := fl_do (c := 99) (N := fun _ => g) (x := x) h hI
  unfold mDo at this; rw [if_neg (by decide), if_neg (by decide), if_neg (by decide), if_neg (by decide)] at this; exact this
theorem law_k0 {X : CX} {w : Wd} {b L c i : Nat} {xsc : Nat → Int32} (h : Cx X cL_law RL 12 600000 7302250) (hXs : va_X b L xsc X.s X.s.heap) (hbl : b < X.s.heap.size) (hbB : b < X.B) (hi : i + 6 ≤ L) (hL : L ≤ 3072) (hR : LR w c (14 * i)) (nx : ∀ w', LR w' c (14 * (i + 6)) → V X 91 1813 567 [some (.ref b), some (.ref c), some (.ref (c + 84)), some (.int (nI i))] [] w') : V X 91 1813 116 [some (.ref b), some (.ref c), some (.ref (c + 84)), some (.int (nI i))] [] w := by
  obtain ⟨n, P, S, H, M, s, l, ⟨σ, hC⟩, hMA, h6, hT, ⟨hSim, hFl, mm, hmB, hInv⟩, hH⟩ := hR
  obtain ⟨np, nq, h4, h8, hP0, hP3, hs0, hs1⟩ := hSim.np hInv
  have hO := hSim.pok hInv
  have hok := hInv.ok
  have hx : (mX M).1 = -1 := h6
  have hn4 := hH.1
  have h3 := hH.2.1
  have hSI : SI P s (14 * i) := ⟨hSim, hFl, mm, hmB, hInv⟩
  have hq := add_sm (g := (xsc (nI i + 1).toNatClampNeg)) hSim hInv
  obtain ⟨hq1, hq2, hI'⟩ := hq
  refine V.aload1 h 117 dL_law_116 rfl (V.aload0 h 118 dL_law_117 rfl (V.iload3 h 119 dL_law_118 rfl (V.iconst h 120 dL_law_119 rfl ic1_1 (V.iadd h 121 dL_law_120 rfl (V.sld h 122 dL_law_121 rfl hXs hbl hbB (si1 hi hL) (V.callVe (As := [.int _]) (st := []) h 125 dL_law_122 rfl k226 k223 k224 k225 k1 hd_X4_project ⟨(Nat.le_of_ble_eq_true rfl), (Nat.le_of_ble_eq_true rfl)⟩ (Nat.le_of_ble_eq_true rfl) hC.ob rfl rfl ⟨(Nat.le_of_ble_eq_true rfl), (Nat.le_of_ble_eq_true rfl)⟩ (c_X4_project hC hn4 hP0 h4) rfl (fun w122 hw122 => ?_)))))))
  obtain ⟨hJ, hF⟩ := hw122
  have hMA1 := hMA.fr hF
  refine V.at _ hMA1.id ?_
  refine V.aload2 h 126 dL_law_125 rfl (V.aload0 h 127 dL_law_126 rfl (V.iload3 h 128 dL_law_127 rfl (V.iconst h 129 dL_law_128 rfl ic1_1 (V.iadd h 130 dL_law_129 rfl (V.sld h 131 dL_law_130 rfl hXs hbl hbB (si1 hi hL) (V.callVe (As := [.int _]) (st := [.int _]) h 134 dL_law_131 rfl k593 k590 k591 k592 k6 hd_X5_project ⟨(Nat.le_of_ble_eq_true rfl), (Nat.le_of_ble_eq_true rfl)⟩ (Nat.le_of_ble_eq_true rfl) zo rfl rfl ⟨(Nat.le_of_ble_eq_true rfl), (Nat.le_of_ble_eq_true rfl)⟩ (c_X5_project hs0 h4 h3 hn4) rfl (fun w131 hw131 => ?_)))))))
  obtain ⟨M1, hM1, rfl⟩ := hw131
  refine V.icmp_eq h 567 137 dL_law_134 rfl rfl (fun _ => ?_) (fun q => absurd hq1 q)
  exact nx _ (LR_chg hMA1 h6 hT hH hSI hJ hM1 hq1 (by omega) ⟨hq2, fl_add hFl hInv, mm, by omega, hI'⟩)
theorem law_k1 {X : CX} {w : Wd} {b L c i : Nat} {xsc : Nat → Int32} (h : Cx X cL_law RL 12 600000 7302250) (hXs : va_X b L xsc X.s X.s.heap) (hbl : b < X.s.heap.size) (hbB : b < X.B) (hi : i + 6 ≤ L) (hL : L ≤ 3072) (hR : LR w c (14 * i)) (nx : ∀ w', LR w' c (14 * (i + 6)) → V X 91 1813 567 [some (.ref b), some (.ref c), some (.ref (c + 84)), some (.int (nI i))] [] w') : V X 91 1813 139 [some (.ref b), some (.ref c), some (.ref (c + 84)), some (.int (nI i))] [] w := by
  obtain ⟨n, P, S, H, M, s, l, ⟨σ, hC⟩, hMA, h6, hT, ⟨hSim, hFl, mm, hmB, hInv⟩, hH⟩ := hR
  obtain ⟨np, nq, h4, h8, hP0, hP3, hs0, hs1⟩ := hSim.np hInv
  have hO := hSim.pok hInv
  have hok := hInv.ok
  have hx : (mX M).1 = -1 := h6
  have hn4 := hH.1
  have h3 := hH.2.1
  have hSI : SI P s (14 * i) := ⟨hSim, hFl, mm, hmB, hInv⟩
  have hq := come_sm (g := (xsc (nI i + 1).toNatClampNeg)) hSim hInv
  obtain ⟨hq1, hq2, hI'⟩ := hq
  refine V.aload1 h 140 dL_law_139 rfl (V.aload0 h 141 dL_law_140 rfl (V.iload3 h 142 dL_law_141 rfl (V.iconst h 143 dL_law_142 rfl ic1_1 (V.iadd h 144 dL_law_143 rfl (V.sld h 145 dL_law_144 rfl hXs hbl hbB (si1 hi hL) (V.callVe (As := [.int _]) (st := []) h 148 dL_law_145 rfl k253 k250 k251 k252 k1 hd_X4_person ⟨(Nat.le_of_ble_eq_true rfl), (Nat.le_of_ble_eq_true rfl)⟩ (Nat.le_of_ble_eq_true rfl) hC.ob rfl rfl ⟨(Nat.le_of_ble_eq_true rfl), (Nat.le_of_ble_eq_true rfl)⟩ (c_X4_person hC hn4 hP3 h8) rfl (fun w145 hw145 => ?_)))))))
  obtain ⟨hJ, hF⟩ := hw145
  have hMA1 := hMA.fr hF
  refine V.at _ hMA1.id ?_
  refine V.aload2 h 149 dL_law_148 rfl (V.aload0 h 150 dL_law_149 rfl (V.iload3 h 151 dL_law_150 rfl (V.iconst h 152 dL_law_151 rfl ic1_1 (V.iadd h 153 dL_law_152 rfl (V.sld h 154 dL_law_153 rfl hXs hbl hbB (si1 hi hL) (V.callVe (As := [.int _]) (st := [.int _]) h 157 dL_law_154 rfl k612 k609 k610 k611 k6 hd_X5_person ⟨(Nat.le_of_ble_eq_true rfl), (Nat.le_of_ble_eq_true rfl)⟩ (Nat.le_of_ble_eq_true rfl) zo rfl rfl ⟨(Nat.le_of_ble_eq_true rfl), (Nat.le_of_ble_eq_true rfl)⟩ (c_X5_person hs1 h8 h3 hn4) rfl (fun w154 hw154 => ?_)))))))
  obtain ⟨M1, hM1, rfl⟩ := hw154
  refine V.icmp_eq h 567 160 dL_law_157 rfl rfl (fun _ => ?_) (fun q => absurd hq1 q)
  exact nx _ (LR_chg hMA1 h6 hT hH hSI hJ hM1 hq1 (by omega) ⟨hq2, fl_come hFl hInv, mm, by omega, hI'⟩)
theorem law_k2 {X : CX} {w : Wd} {b L c i : Nat} {xsc : Nat → Int32} (h : Cx X cL_law RL 12 600000 7302250) (hXs : va_X b L xsc X.s X.s.heap) (hbl : b < X.s.heap.size) (hbB : b < X.B) (hi : i + 6 ≤ L) (hL : L ≤ 3072) (hR : LR w c (14 * i)) (nx : ∀ w', LR w' c (14 * (i + 6)) → V X 91 1813 567 [some (.ref b), some (.ref c), some (.ref (c + 84)), some (.int (nI i))] [] w') : V X 91 1813 162 [some (.ref b), some (.ref c), some (.ref (c + 84)), some (.int (nI i))] [] w := by
  obtain ⟨n, P, S, H, M, s, l, ⟨σ, hC⟩, hMA, h6, hT, ⟨hSim, hFl, mm, hmB, hInv⟩, hH⟩ := hR
  obtain ⟨np, nq, h4, h8, hP0, hP3, hs0, hs1⟩ := hSim.np hInv
  have hO := hSim.pok hInv
  have hok := hInv.ok
  have hx : (mX M).1 = -1 := h6
  have hn4 := hH.1
  have h3 := hH.2.1
  have hSI : SI P s (14 * i) := ⟨hSim, hFl, mm, hmB, hInv⟩
  have hq := mk_sm (i := (xsc (nI i + 1).toNatClampNeg)) (t := (xsc (nI i + 2).toNatClampNeg)) (a := (xsc (nI i + 3).toNatClampNeg)) (kd := (xsc (nI i + 4).toNatClampNeg)) (v := (xsc (nI i + 5).toNatClampNeg)) hSim hInv
  obtain ⟨hq1, hq2, m', hm', hI'⟩ := hq
  refine V.aload1 h 163 dL_law_162 rfl (V.aload0 h 164 dL_law_163 rfl (V.iload3 h 165 dL_law_164 rfl (V.iconst h 166 dL_law_165 rfl ic1_1 (V.iadd h 167 dL_law_166 rfl (V.sld h 168 dL_law_167 rfl hXs hbl hbB (si1 hi hL) (V.aload0 h 169 dL_law_168 rfl (V.iload3 h 170 dL_law_169 rfl ?_)))))))
  refine V.iconst h 171 dL_law_170 rfl ic1_2 (V.iadd h 172 dL_law_171 rfl (V.sld h 173 dL_law_172 rfl hXs hbl hbB (si2 hi hL) (V.aload0 h 174 dL_law_173 rfl (V.iload3 h 175 dL_law_174 rfl (V.iconst h 176 dL_law_175 rfl ic1_3 (V.iadd h 177 dL_law_176 rfl (V.sld h 178 dL_law_177 rfl hXs hbl hbB (si3 hi hL) ?_)))))))
  refine V.aload0 h 179 dL_law_178 rfl (V.iload3 h 180 dL_law_179 rfl (V.iconst h 181 dL_law_180 rfl ic1_4 (V.iadd h 182 dL_law_181 rfl (V.sld h 183 dL_law_182 rfl hXs hbl hbB (si4 hi hL) (V.aload0 h 184 dL_law_183 rfl (V.iload3 h 185 dL_law_184 rfl (V.iconst h 186 dL_law_185 rfl ic1_5 ?_)))))))
  refine V.iadd h 187 dL_law_186 rfl (V.sld h 188 dL_law_187 rfl hXs hbl hbB (si5 hi hL) (V.callVe (As := [.int _, .int _, .int _, .int _, .int _]) (st := []) h 191 dL_law_188 rfl k261 k258 k259 k260 k1 hd_X4_pledge ⟨(Nat.le_of_ble_eq_true rfl), (Nat.le_of_ble_eq_true rfl)⟩ (Nat.le_of_ble_eq_true rfl) hC.ob rfl rfl ⟨(Nat.le_of_ble_eq_true rfl), (Nat.le_of_ble_eq_true rfl)⟩ (c_X4_pledge hC hn4 hP0 h4 hP3 h8) rfl (fun w188 hw188 => ?_)))
  obtain ⟨hJ, hF⟩ := hw188
  have hMA1 := hMA.fr hF
  refine V.at _ hMA1.id ?_
  refine V.aload2 h 192 dL_law_191 rfl (V.aload0 h 193 dL_law_192 rfl (V.iload3 h 194 dL_law_193 rfl (V.iconst h 195 dL_law_194 rfl ic1_1 (V.iadd h 196 dL_law_195 rfl (V.sld h 197 dL_law_196 rfl hXs hbl hbB (si1 hi hL) (V.aload0 h 198 dL_law_197 rfl (V.iload3 h 199 dL_law_198 rfl ?_)))))))
  refine V.iconst h 200 dL_law_199 rfl ic1_2 (V.iadd h 201 dL_law_200 rfl (V.sld h 202 dL_law_201 rfl hXs hbl hbB (si2 hi hL) (V.aload0 h 203 dL_law_202 rfl (V.iload3 h 204 dL_law_203 rfl (V.iconst h 205 dL_law_204 rfl ic1_3 (V.iadd h 206 dL_law_205 rfl (V.sld h 207 dL_law_206 rfl hXs hbl hbB (si3 hi hL) ?_)))))))
  refine V.aload0 h 208 dL_law_207 rfl (V.iload3 h 209 dL_law_208 rfl (V.iconst h 210 dL_law_209 rfl ic1_4 (V.iadd h 211 dL_law_210 rfl (V.sld h 212 dL_law_211 rfl hXs hbl hbB (si4 hi hL) (V.aload0 h 213 dL_law_212 rfl (V.iload3 h 214 dL_law_213 rfl (V.iconst h 215 dL_law_214 rfl ic1_5 ?_)))))))
  refine V.iadd h 216 dL_law_215 rfl (V.sld h 217 dL_law_216 rfl hXs hbl hbB (si5 hi hL) (V.callVe (As := [.int _, .int _, .int _, .int _, .int _]) (st := [.int _]) h 220 dL_law_217 rfl k620 k617 k618 k619 k6 hd_X5_pledge ⟨(Nat.le_of_ble_eq_true rfl), (Nat.le_of_ble_eq_true rfl)⟩ (Nat.le_of_ble_eq_true rfl) zo rfl rfl ⟨(Nat.le_of_ble_eq_true rfl), (Nat.le_of_ble_eq_true rfl)⟩ (c_X5_pledge hs0 h4 hs1 h8 h3 hn4) rfl (fun w217 hw217 => ?_)))
  obtain ⟨M1, hM1, rfl⟩ := hw217
  refine V.icmp_eq h 567 223 dL_law_220 rfl rfl (fun _ => ?_) (fun q => absurd hq1 q)
  exact nx _ (LR_chg hMA1 h6 hT hH hSI hJ hM1 hq1 (by omega) ⟨hq2, fl_mk hFl hInv, m', by omega, hI'⟩)
theorem law_k3 {X : CX} {w : Wd} {b L c i : Nat} {xsc : Nat → Int32} (h : Cx X cL_law RL 12 600000 7302250) (hXs : va_X b L xsc X.s X.s.heap) (hbl : b < X.s.heap.size) (hbB : b < X.B) (hi : i + 6 ≤ L) (hL : L ≤ 3072) (hR : LR w c (14 * i)) (nx : ∀ w', LR w' c (14 * (i + 6)) → V X 91 1813 567 [some (.ref b), some (.ref c), some (.ref (c + 84)), some (.int (nI i))] [] w') : V X 91 1813 225 [some (.ref b), some (.ref c), some (.ref (c + 84)), some (.int (nI i))] [] w := by
  obtain ⟨n, P, S, H, M, s, l, ⟨σ, hC⟩, hMA, h6, hT, ⟨hSim, hFl, mm, hmB, hInv⟩, hH⟩ := hR
  obtain ⟨np, nq, h4, h8, hP0, hP3, hs0, hs1⟩ := hSim.np hInv
  have hO := hSim.pok hInv
  have hok := hInv.ok
  have hx : (mX M).1 = -1 := h6
  have hn4 := hH.1
  have h3 := hH.2.1
  have hSI : SI P s (14 * i) := ⟨hSim, hFl, mm, hmB, hInv⟩
  have hq := wd_sm (v := (xsc (nI i + 1).toNatClampNeg)) hSim hInv hx
  obtain ⟨hq1, hq2, hI'⟩ := hq
  refine V.aload1 h 226 dL_law_225 rfl (V.aload0 h 227 dL_law_226 rfl (V.iload3 h 228 dL_law_227 rfl (V.iconst h 229 dL_law_228 rfl ic1_1 (V.iadd h 230 dL_law_229 rfl (V.sld h 231 dL_law_230 rfl hXs hbl hbB (si1 hi hL) (V.callVe (As := [.int _]) (st := []) h 234 dL_law_231 rfl k305 k302 k303 k304 k1 hd_X4_withdraw ⟨(Nat.le_of_ble_eq_true rfl), (Nat.le_of_ble_eq_true rfl)⟩ (Nat.le_of_ble_eq_true rfl) hC.ob rfl rfl ⟨(Nat.le_of_ble_eq_true rfl), (Nat.le_of_ble_eq_true rfl)⟩ (c_X4_withdraw hC hn4 hO) rfl (fun w231 hw231 => ?_)))))))
  obtain ⟨hJ, hF⟩ := hw231
  have hMA1 := hMA.fr hF
  refine V.at _ hMA1.id ?_
  refine V.aload2 h 235 dL_law_234 rfl (V.aload0 h 236 dL_law_235 rfl (V.iload3 h 237 dL_law_236 rfl (V.iconst h 238 dL_law_237 rfl ic1_1 (V.iadd h 239 dL_law_238 rfl (V.sld h 240 dL_law_239 rfl hXs hbl hbB (si1 hi hL) (V.callVe (As := [.int _]) (st := [.int _]) h 243 dL_law_240 rfl k671 k668 k669 k670 k6 hd_X5_withdraw ⟨(Nat.le_of_ble_eq_true rfl), (Nat.le_of_ble_eq_true rfl)⟩ (Nat.le_of_ble_eq_true rfl) zo rfl rfl ⟨(Nat.le_of_ble_eq_true rfl), (Nat.le_of_ble_eq_true rfl)⟩ (c_X5_withdraw hok h3 hn4) rfl (fun w240 hw240 => ?_)))))))
  obtain ⟨M1, hM1, rfl⟩ := hw240
  refine V.icmp_eq h 567 246 dL_law_243 rfl rfl (fun _ => ?_) (fun q => absurd hq1 q)
  exact nx _ (LR_chg hMA1 h6 hT hH hSI hJ hM1 hq1 (by omega) ⟨hq2, fl_wd hFl hInv, mm, by omega, hI'⟩)
theorem law_k4 {X : CX} {w : Wd} {b L c i : Nat} {xsc : Nat → Int32} (h : Cx X cL_law RL 12 600000 7302250) (hXs : va_X b L xsc X.s X.s.heap) (hbl : b < X.s.heap.size) (hbB : b < X.B) (hi : i + 6 ≤ L) (hL : L ≤ 3072) (hR : LR w c (14 * i)) (nx : ∀ w', LR w' c (14 * (i + 6)) → V X 91 1813 567 [some (.ref b), some (.ref c), some (.ref (c + 84)), some (.int (nI i))] [] w') : V X 91 1813 248 [some (.ref b), some (.ref c), some (.ref (c + 84)), some (.int (nI i))] [] w := by
  obtain ⟨n, P, S, H, M, s, l, ⟨σ, hC⟩, hMA, h6, hT, ⟨hSim, hFl, mm, hmB, hInv⟩, hH⟩ := hR
  obtain ⟨np, nq, h4, h8, hP0, hP3, hs0, hs1⟩ := hSim.np hInv
  have hO := hSim.pok hInv
  have hok := hInv.ok
  have hx : (mX M).1 = -1 := h6
  have hn4 := hH.1
  have h3 := hH.2.1
  have hSI : SI P s (14 * i) := ⟨hSim, hFl, mm, hmB, hInv⟩
  have hq := co_sm (v := (xsc (nI i + 1).toNatClampNeg)) hSim hInv hx
  obtain ⟨hq1, hq2, hI'⟩ := hq
  refine V.aload1 h 249 dL_law_248 rfl (V.aload0 h 250 dL_law_249 rfl (V.iload3 h 251 dL_law_250 rfl (V.iconst h 252 dL_law_251 rfl ic1_1 (V.iadd h 253 dL_law_252 rfl (V.sld h 254 dL_law_253 rfl hXs hbl hbB (si1 hi hL) (V.callVe (As := [.int _]) (st := []) h 257 dL_law_254 rfl k330 k327 k328 k329 k1 hd_X4_callIn ⟨(Nat.le_of_ble_eq_true rfl), (Nat.le_of_ble_eq_true rfl)⟩ (Nat.le_of_ble_eq_true rfl) hC.ob rfl rfl ⟨(Nat.le_of_ble_eq_true rfl), (Nat.le_of_ble_eq_true rfl)⟩ (c_X4_callIn hC hn4 hP0 h4 hO) rfl (fun w254 hw254 => ?_)))))))
  obtain ⟨hJ, hF⟩ := hw254
  have hMA1 := hMA.fr hF
  refine V.at _ hMA1.id ?_
  refine V.aload2 h 258 dL_law_257 rfl (V.aload0 h 259 dL_law_258 rfl (V.iload3 h 260 dL_law_259 rfl (V.iconst h 261 dL_law_260 rfl ic1_1 (V.iadd h 262 dL_law_261 rfl (V.sld h 263 dL_law_262 rfl hXs hbl hbB (si1 hi hL) (V.callVe (As := [.int _]) (st := [.int _]) h 266 dL_law_263 rfl k723 k720 k721 k722 k6 hd_X5_callIn ⟨(Nat.le_of_ble_eq_true rfl), (Nat.le_of_ble_eq_true rfl)⟩ (Nat.le_of_ble_eq_true rfl) zo rfl rfl ⟨(Nat.le_of_ble_eq_true rfl), (Nat.le_of_ble_eq_true rfl)⟩ (c_X5_callIn hok hs0 h4 (fun j => gOK_for hInv _ _) h3 hn4) rfl (fun w263 hw263 => ?_)))))))
  obtain ⟨M1, hM1, rfl⟩ := hw263
  refine V.icmp_eq h 567 269 dL_law_266 rfl rfl (fun _ => ?_) (fun q => absurd hq1 q)
  exact nx _ (LR_chg hMA1 h6 hT hH hSI hJ hM1 hq1 (by omega) ⟨hq2, fl_ca hFl hInv, mm, by omega, hI'⟩)
theorem law_k5 {X : CX} {w : Wd} {b L c i : Nat} {xsc : Nat → Int32} (h : Cx X cL_law RL 12 600000 7302250) (hXs : va_X b L xsc X.s X.s.heap) (hbl : b < X.s.heap.size) (hbB : b < X.B) (hi : i + 6 ≤ L) (hL : L ≤ 3072) (hR : LR w c (14 * i)) (nx : ∀ w', LR w' c (14 * (i + 6)) → V X 91 1813 567 [some (.ref b), some (.ref c), some (.ref (c + 84)), some (.int (nI i))] [] w') : V X 91 1813 271 [some (.ref b), some (.ref c), some (.ref (c + 84)), some (.int (nI i))] [] w := by
  obtain ⟨n, P, S, H, M, s, l, ⟨σ, hC⟩, hMA, h6, hT, ⟨hSim, hFl, mm, hmB, hInv⟩, hH⟩ := hR
  obtain ⟨np, nq, h4, h8, hP0, hP3, hs0, hs1⟩ := hSim.np hInv
  have hO := hSim.pok hInv
  have hok := hInv.ok
  have hx : (mX M).1 = -1 := h6
  have hn4 := hH.1
  have h3 := hH.2.1
  have hSI : SI P s (14 * i) := ⟨hSim, hFl, mm, hmB, hInv⟩
  have hq := pl_sm hSim hInv hFl hx (xsc (nI i + 1).toNatClampNeg) (xsc (nI i + 2).toNatClampNeg)
  obtain ⟨f, g, v, ew⟩ := hC.id
  have hob := hC.ob
  refine V.at _ ew ?_
  refine V.aload1 h 272 dL_law_271 rfl (V.aload0 h 273 dL_law_272 rfl (V.iload3 h 274 dL_law_273 rfl (V.iconst h 275 dL_law_274 rfl ic1_1 (V.iadd h 276 dL_law_275 rfl (V.sld h 277 dL_law_276 rfl hXs hbl hbB (si1 hi hL) (V.aload0 h 278 dL_law_277 rfl (V.iload3 h 279 dL_law_278 rfl ?_)))))))
  refine V.iconst h 280 dL_law_279 rfl ic1_2 (V.iadd h 281 dL_law_280 rfl (V.sld h 282 dL_law_281 rfl hXs hbl hbB (si2 hi hL) (V.callVe (As := [.int _, .int _]) (st := []) h 285 dL_law_282 rfl k342 k339 k340 k341 k1 hd_X4_pledgeOf ⟨(Nat.le_of_ble_eq_true rfl), (Nat.le_of_ble_eq_true rfl)⟩ (Nat.le_of_ble_eq_true rfl) (ob hob) rfl rfl ⟨(Nat.le_of_ble_eq_true rfl), (Nat.le_of_ble_eq_true rfl)⟩ (c_X4_pledgeOf hob hO) rfl (fun w282 hw282 => ?_))))
  obtain ⟨P1, f1, g1, v1, hE, rfl⟩ := hw282
  have hc1 := hC.ct (P' := P1) (f := f1) (g := g1) (v := v1)
  have hMA1 := hMA.fr hc1.2
  refine V.at _ hMA1.id ?_
  refine V.aload2 h 286 dL_law_285 rfl (V.aload0 h 287 dL_law_286 rfl (V.iload3 h 288 dL_law_287 rfl (V.iconst h 289 dL_law_288 rfl ic1_1 (V.iadd h 290 dL_law_289 rfl (V.sld h 291 dL_law_290 rfl hXs hbl hbB (si1 hi hL) (V.aload0 h 292 dL_law_291 rfl (V.iload3 h 293 dL_law_292 rfl ?_)))))))
  refine V.iconst h 294 dL_law_293 rfl ic1_2 (V.iadd h 295 dL_law_294 rfl (V.sld h 296 dL_law_295 rfl hXs hbl hbB (si2 hi hL) (V.callVe (As := [.int _, .int _]) (st := [.int _]) h 299 dL_law_296 rfl k739 k736 k737 k738 k6 hd_X5_pledgeOf ⟨(Nat.le_of_ble_eq_true rfl), (Nat.le_of_ble_eq_true rfl)⟩ (Nat.le_of_ble_eq_true rfl) zo rfl rfl ⟨(Nat.le_of_ble_eq_true rfl), (Nat.le_of_ble_eq_true rfl)⟩ (c_X5_pledgeOf hok) rfl (fun w296 hw296 => ?_))))
  obtain ⟨M1, hM1, rfl⟩ := hw296
  refine V.icmp_eq h 567 302 dL_law_299 rfl rfl (fun _ => ?_) (fun q => absurd hq q)
  exact nx _ (LR_ask (by first | exact (by rw [hM1 6 (by decide) (by decide)]; exact h6)) hT hH ⟨σ, hc1.1⟩ (fun g hg => hM1 g (by omega) (by omega)) (by omega) ⟨hSim.e12 hE, hFl, mm, hmB, hInv⟩)
theorem law_k6 {X : CX} {w : Wd} {b L c i : Nat} {xsc : Nat → Int32} (h : Cx X cL_law RL 12 600000 7302250) (hXs : va_X b L xsc X.s X.s.heap) (hbl : b < X.s.heap.size) (hbB : b < X.B) (hi : i + 6 ≤ L) (hL : L ≤ 3072) (hR : LR w c (14 * i)) (nx : ∀ w', LR w' c (14 * (i + 6)) → V X 91 1813 567 [some (.ref b), some (.ref c), some (.ref (c + 84)), some (.int (nI i))] [] w') : V X 91 1813 304 [some (.ref b), some (.ref c), some (.ref (c + 84)), some (.int (nI i))] [] w := by
  obtain ⟨n, P, S, H, M, s, l, ⟨σ, hC⟩, hMA, h6, hT, ⟨hSim, hFl, mm, hmB, hInv⟩, hH⟩ := hR
  obtain ⟨np, nq, h4, h8, hP0, hP3, hs0, hs1⟩ := hSim.np hInv
  have hO := hSim.pok hInv
  have hok := hInv.ok
  have hx : (mX M).1 = -1 := h6
  have hn4 := hH.1
  have h3 := hH.2.1
  have hSI : SI P s (14 * i) := ⟨hSim, hFl, mm, hmB, hInv⟩
  obtain ⟨m, hmA, hmB2⟩ := push_m hSim hInv hs0 h4 (xsc (nI i + 1).toNatClampNeg)
  have hm1 : (xsc (nI i + 2).toNatClampNeg) = 9 → ∀ j, j < np → (xsc (nI i + 1).toNatClampNeg) = nI j → Bt (P 2 0) j = false → ∃ G, P 1 j = nI G ∧ G ≤ 999 ∧ (hasG P noX (std P noX 0) (nI j) = false → 1 ≤ m ∧ m ≤ G ∧ (∀ k, 1 ≤ k → k < m → pdo P j (nI k) = false) ∧ ∀ k, m ≤ k → k ≤ G → pdo P j (nI k) = true) := fun _ j hj e _ => by
    obtain ⟨G, g1, g2, g3⟩ := hmA j hj e
    exact ⟨G, g1, g2, fun _ => g3⟩
  have hm2 : (xsc (nI i + 2).toNatClampNeg) = 9 → ∀ j, j < np → (xsc (nI i + 1).toNatClampNeg) = nI j → s (5 + 2 * j + 1) ≠ 1 → isPush (vP s) (xsc (nI i + 1).toNatClampNeg) m := fun _ j hj e _ => hmB2 j hj e
  have hq := pr_sm hSim hInv (by omega) hx m (xsc (nI i + 1).toNatClampNeg) (xsc (nI i + 2).toNatClampNeg)
  obtain ⟨f, g, v, ew⟩ := hC.id
  have hob := hC.ob
  refine V.at _ ew ?_
  refine V.aload1 h 305 dL_law_304 rfl (V.aload0 h 306 dL_law_305 rfl (V.iload3 h 307 dL_law_306 rfl (V.iconst h 308 dL_law_307 rfl ic1_1 (V.iadd h 309 dL_law_308 rfl (V.sld h 310 dL_law_309 rfl hXs hbl hbB (si1 hi hL) (V.aload0 h 311 dL_law_310 rfl (V.iload3 h 312 dL_law_311 rfl ?_)))))))
  refine V.iconst h 313 dL_law_312 rfl ic1_2 (V.iadd h 314 dL_law_313 rfl (V.sld h 315 dL_law_314 rfl hXs hbl hbB (si2 hi hL) (V.callVe (As := [.int _, .int _]) (st := []) h 318 dL_law_315 rfl k373 k370 k371 k372 k1 hd_X4_projectOf ⟨(Nat.le_of_ble_eq_true rfl), (Nat.le_of_ble_eq_true rfl)⟩ (Nat.le_of_ble_eq_true rfl) (ob hob) rfl rfl ⟨(Nat.le_of_ble_eq_true rfl), (Nat.le_of_ble_eq_true rfl)⟩ (c_X4_projectOf hob hO hP0 h4 hm1) rfl (fun w315 hw315 => ?_))))
  obtain ⟨P1, f1, g1, v1, hE, rfl⟩ := hw315
  have hc1 := hC.ct (P' := P1) (f := f1) (g := g1) (v := v1)
  have hMA1 := hMA.fr hc1.2
  refine V.at _ hMA1.id ?_
  refine V.aload2 h 319 dL_law_318 rfl (V.aload0 h 320 dL_law_319 rfl (V.iload3 h 321 dL_law_320 rfl (V.iconst h 322 dL_law_321 rfl ic1_1 (V.iadd h 323 dL_law_322 rfl (V.sld h 324 dL_law_323 rfl hXs hbl hbB (si1 hi hL) (V.aload0 h 325 dL_law_324 rfl (V.iload3 h 326 dL_law_325 rfl ?_)))))))
  refine V.iconst h 327 dL_law_326 rfl ic1_2 (V.iadd h 328 dL_law_327 rfl (V.sld h 329 dL_law_328 rfl hXs hbl hbB (si2 hi hL) (V.callVe (As := [.int _, .int _]) (st := [.int _]) h 332 dL_law_329 rfl k743 k740 k741 k742 k6 hd_X5_projectOf ⟨(Nat.le_of_ble_eq_true rfl), (Nat.le_of_ble_eq_true rfl)⟩ (Nat.le_of_ble_eq_true rfl) zo rfl rfl ⟨(Nat.le_of_ble_eq_true rfl), (Nat.le_of_ble_eq_true rfl)⟩ (c_X5_projectOf hok hs0 h4 hm2 h6) rfl (fun w329 hw329 => ?_))))
  obtain ⟨M1, hM1, rfl⟩ := hw329
  refine V.icmp_eq h 567 335 dL_law_332 rfl rfl (fun _ => ?_) (fun q => absurd hq q)
  exact nx _ (LR_ask (by first | exact (hM1.2.trans h6)) hT hH ⟨σ, hc1.1⟩ (fun g hg => hM1.1 g (by omega) (by omega) (by omega) (by omega)) (by omega) ⟨hSim.e12 hE, hFl, mm, hmB, hInv⟩)
theorem law_k7 {X : CX} {w : Wd} {b L c i : Nat} {xsc : Nat → Int32} (h : Cx X cL_law RL 12 600000 7302250) (hXs : va_X b L xsc X.s X.s.heap) (hbl : b < X.s.heap.size) (hbB : b < X.B) (hi : i + 6 ≤ L) (hL : L ≤ 3072) (hR : LR w c (14 * i)) (nx : ∀ w', LR w' c (14 * (i + 6)) → V X 91 1813 567 [some (.ref b), some (.ref c), some (.ref (c + 84)), some (.int (nI i))] [] w') : V X 91 1813 337 [some (.ref b), some (.ref c), some (.ref (c + 84)), some (.int (nI i))] [] w := by
  obtain ⟨n, P, S, H, M, s, l, ⟨σ, hC⟩, hMA, h6, hT, ⟨hSim, hFl, mm, hmB, hInv⟩, hH⟩ := hR
  obtain ⟨np, nq, h4, h8, hP0, hP3, hs0, hs1⟩ := hSim.np hInv
  have hO := hSim.pok hInv
  have hok := hInv.ok
  have hx : (mX M).1 = -1 := h6
  have hn4 := hH.1
  have h3 := hH.2.1
  have hSI : SI P s (14 * i) := ⟨hSim, hFl, mm, hmB, hInv⟩
  have hq := pe_sm hSim hInv hx (xsc (nI i + 1).toNatClampNeg) (xsc (nI i + 2).toNatClampNeg)
  obtain ⟨f, g, v, ew⟩ := hC.id
  have hob := hC.ob
  refine V.at _ ew ?_
  refine V.aload1 h 338 dL_law_337 rfl (V.aload0 h 339 dL_law_338 rfl (V.iload3 h 340 dL_law_339 rfl (V.iconst h 341 dL_law_340 rfl ic1_1 (V.iadd h 342 dL_law_341 rfl (V.sld h 343 dL_law_342 rfl hXs hbl hbB (si1 hi hL) (V.aload0 h 344 dL_law_343 rfl (V.iload3 h 345 dL_law_344 rfl ?_)))))))
  refine V.iconst h 346 dL_law_345 rfl ic1_2 (V.iadd h 347 dL_law_346 rfl (V.sld h 348 dL_law_347 rfl hXs hbl hbB (si2 hi hL) (V.callVe (As := [.int _, .int _]) (st := []) h 351 dL_law_348 rfl k417 k414 k415 k416 k1 hd_X4_personOf ⟨(Nat.le_of_ble_eq_true rfl), (Nat.le_of_ble_eq_true rfl)⟩ (Nat.le_of_ble_eq_true rfl) (ob hob) rfl rfl ⟨(Nat.le_of_ble_eq_true rfl), (Nat.le_of_ble_eq_true rfl)⟩ (c_X4_personOf hob hO hP3 h8) rfl (fun w348 hw348 => ?_))))
  obtain ⟨P1, f1, g1, v1, hE, rfl⟩ := hw348
  have hc1 := hC.ct (P' := P1) (f := f1) (g := g1) (v := v1)
  have hMA1 := hMA.fr hc1.2
  refine V.at _ hMA1.id ?_
  refine V.aload2 h 352 dL_law_351 rfl (V.aload0 h 353 dL_law_352 rfl (V.iload3 h 354 dL_law_353 rfl (V.iconst h 355 dL_law_354 rfl ic1_1 (V.iadd h 356 dL_law_355 rfl (V.sld h 357 dL_law_356 rfl hXs hbl hbB (si1 hi hL) (V.aload0 h 358 dL_law_357 rfl (V.iload3 h 359 dL_law_358 rfl ?_)))))))
  refine V.iconst h 360 dL_law_359 rfl ic1_2 (V.iadd h 361 dL_law_360 rfl (V.sld h 362 dL_law_361 rfl hXs hbl hbB (si2 hi hL) (V.callVe (As := [.int _, .int _]) (st := [.int _]) h 365 dL_law_362 rfl k759 k756 k757 k758 k6 hd_X5_personOf ⟨(Nat.le_of_ble_eq_true rfl), (Nat.le_of_ble_eq_true rfl)⟩ (Nat.le_of_ble_eq_true rfl) zo rfl rfl ⟨(Nat.le_of_ble_eq_true rfl), (Nat.le_of_ble_eq_true rfl)⟩ (c_X5_personOf hok hs1 h8) rfl (fun w362 hw362 => ?_))))
  obtain ⟨M1, hM1, rfl⟩ := hw362
  refine V.icmp_eq h 567 368 dL_law_365 rfl rfl (fun _ => ?_) (fun q => absurd hq q)
  exact nx _ (LR_ask (by first | exact (by rw [hM1 6 (by decide) (by decide)]; exact h6)) hT hH ⟨σ, hc1.1⟩ (fun g hg => hM1 g (by omega) (by omega)) (by omega) ⟨hSim.e12 hE, hFl, mm, hmB, hInv⟩)
theorem law_k8 {X : CX} {w : Wd} {b L c i : Nat} {xsc : Nat → Int32} (h : Cx X cL_law RL 12 600000 7302250) (hXs : va_X b L xsc X.s X.s.heap) (hbl : b < X.s.heap.size) (hbB : b < X.B) (hi : i + 6 ≤ L) (hL : L ≤ 3072) (hR : LR w c (14 * i)) (nx : ∀ w', LR w' c (14 * (i + 6)) → V X 91 1813 567 [some (.ref b), some (.ref c), some (.ref (c + 84)), some (.int (nI i))] [] w') : V X 91 1813 370 [some (.ref b), some (.ref c), some (.ref (c + 84)), some (.int (nI i))] [] w := by
  obtain ⟨n, P, S, H, M, s, l, ⟨σ, hC⟩, hMA, h6, hT, ⟨hSim, hFl, mm, hmB, hInv⟩, hH⟩ := hR
  obtain ⟨np, nq, h4, h8, hP0, hP3, hs0, hs1⟩ := hSim.np hInv
  have hO := hSim.pok hInv
  have hok := hInv.ok
  have hx : (mX M).1 = -1 := h6
  have hn4 := hH.1
  have h3 := hH.2.1
  have hSI : SI P s (14 * i) := ⟨hSim, hFl, mm, hmB, hInv⟩
  have hq := st_sm hSim hInv hx (xsc (nI i + 1).toNatClampNeg)
  obtain ⟨f, g, v, ew⟩ := hC.id
  have hob := hC.ob
  refine V.at _ ew ?_
  refine V.aload1 h 371 dL_law_370 rfl (V.aload0 h 372 dL_law_371 rfl (V.iload3 h 373 dL_law_372 rfl (V.iconst h 374 dL_law_373 rfl ic1_1 (V.iadd h 375 dL_law_374 rfl (V.sld h 376 dL_law_375 rfl hXs hbl hbB (si1 hi hL) (V.callVe (As := [.int _]) (st := []) h 379 dL_law_376 rfl k429 k426 k427 k428 k1 hd_X4_standing ⟨(Nat.le_of_ble_eq_true rfl), (Nat.le_of_ble_eq_true rfl)⟩ (Nat.le_of_ble_eq_true rfl) (ob hob) rfl rfl ⟨(Nat.le_of_ble_eq_true rfl), (Nat.le_of_ble_eq_true rfl)⟩ (c_X4_standing hob hO) rfl (fun w376 hw376 => ?_)))))))
  obtain ⟨P1, f1, g1, v1, hE, rfl⟩ := hw376
  have hc1 := hC.ct (P' := P1) (f := f1) (g := g1) (v := v1)
  have hMA1 := hMA.fr hc1.2
  refine V.at _ hMA1.id ?_
  refine V.aload2 h 380 dL_law_379 rfl (V.aload0 h 381 dL_law_380 rfl (V.iload3 h 382 dL_law_381 rfl (V.iconst h 383 dL_law_382 rfl ic1_1 (V.iadd h 384 dL_law_383 rfl (V.sld h 385 dL_law_384 rfl hXs hbl hbB (si1 hi hL) (V.callVe (As := [.int _]) (st := [.int _]) h 388 dL_law_385 rfl k766 k763 k764 k765 k6 hd_X5_standing ⟨(Nat.le_of_ble_eq_true rfl), (Nat.le_of_ble_eq_true rfl)⟩ (Nat.le_of_ble_eq_true rfl) zo rfl rfl ⟨(Nat.le_of_ble_eq_true rfl), (Nat.le_of_ble_eq_true rfl)⟩ (c_X5_standing hok) rfl (fun w385 hw385 => ?_)))))))
  obtain ⟨M1, hM1, rfl⟩ := hw385
  refine V.icmp_eq h 567 391 dL_law_388 rfl rfl (fun _ => ?_) (fun q => absurd hq q)
  exact nx _ (LR_ask (by first | exact (by rw [hM1 6 (by decide) (by decide)]; exact h6)) hT hH ⟨σ, hc1.1⟩ (fun g hg => hM1 g (by omega) (by omega)) (by omega) ⟨hSim.e12 hE, hFl, mm, hmB, hInv⟩)
theorem law_k9 {X : CX} {w : Wd} {b L c i : Nat} {xsc : Nat → Int32} (h : Cx X cL_law RL 12 600000 7302250) (hXs : va_X b L xsc X.s X.s.heap) (hbl : b < X.s.heap.size) (hbB : b < X.B) (hi : i + 6 ≤ L) (hL : L ≤ 3072) (hR : LR w c (14 * i)) (nx : ∀ w', LR w' c (14 * (i + 6)) → V X 91 1813 567 [some (.ref b), some (.ref c), some (.ref (c + 84)), some (.int (nI i))] [] w') : V X 91 1813 393 [some (.ref b), some (.ref c), some (.ref (c + 84)), some (.int (nI i))] [] w := by
  obtain ⟨n, P, S, H, M, s, l, ⟨σ, hC⟩, hMA, h6, hT, ⟨hSim, hFl, mm, hmB, hInv⟩, hH⟩ := hR
  obtain ⟨np, nq, h4, h8, hP0, hP3, hs0, hs1⟩ := hSim.np hInv
  have hO := hSim.pok hInv
  have hok := hInv.ok
  have hx : (mX M).1 = -1 := h6
  have hn4 := hH.1
  have h3 := hH.2.1
  have hSI : SI P s (14 * i) := ⟨hSim, hFl, mm, hmB, hInv⟩
  have hq := se_sm hSim hInv hx (xsc (nI i + 1).toNatClampNeg) (xsc (nI i + 2).toNatClampNeg)
  obtain ⟨f, g, v, ew⟩ := hC.id
  have hob := hC.ob
  refine V.at _ ew ?_
  refine V.aload1 h 394 dL_law_393 rfl (V.aload0 h 395 dL_law_394 rfl (V.iload3 h 396 dL_law_395 rfl (V.iconst h 397 dL_law_396 rfl ic1_1 (V.iadd h 398 dL_law_397 rfl (V.sld h 399 dL_law_398 rfl hXs hbl hbB (si1 hi hL) (V.aload0 h 400 dL_law_399 rfl (V.iload3 h 401 dL_law_400 rfl ?_)))))))
  refine V.iconst h 402 dL_law_401 rfl ic1_2 (V.iadd h 403 dL_law_402 rfl (V.sld h 404 dL_law_403 rfl hXs hbl hbB (si2 hi hL) (V.callVe (As := [.int _, .int _]) (st := []) h 407 dL_law_404 rfl k439 k436 k437 k438 k1 hd_X4_setOf ⟨(Nat.le_of_ble_eq_true rfl), (Nat.le_of_ble_eq_true rfl)⟩ (Nat.le_of_ble_eq_true rfl) (ob hob) rfl rfl ⟨(Nat.le_of_ble_eq_true rfl), (Nat.le_of_ble_eq_true rfl)⟩ (c_X4_setOf hob hO) rfl (fun w404 hw404 => ?_))))
  obtain ⟨P1, f1, g1, v1, hE, rfl⟩ := hw404
  have hc1 := hC.ct (P' := P1) (f := f1) (g := g1) (v := v1)
  have hMA1 := hMA.fr hc1.2
  refine V.at _ hMA1.id ?_
  refine V.aload2 h 408 dL_law_407 rfl (V.aload0 h 409 dL_law_408 rfl (V.iload3 h 410 dL_law_409 rfl (V.iconst h 411 dL_law_410 rfl ic1_1 (V.iadd h 412 dL_law_411 rfl (V.sld h 413 dL_law_412 rfl hXs hbl hbB (si1 hi hL) (V.aload0 h 414 dL_law_413 rfl (V.iload3 h 415 dL_law_414 rfl ?_)))))))
  refine V.iconst h 416 dL_law_415 rfl ic1_2 (V.iadd h 417 dL_law_416 rfl (V.sld h 418 dL_law_417 rfl hXs hbl hbB (si2 hi hL) (V.callVe (As := [.int _, .int _]) (st := [.int _]) h 421 dL_law_418 rfl k774 k771 k772 k773 k6 hd_X5_setOf ⟨(Nat.le_of_ble_eq_true rfl), (Nat.le_of_ble_eq_true rfl)⟩ (Nat.le_of_ble_eq_true rfl) zo rfl rfl ⟨(Nat.le_of_ble_eq_true rfl), (Nat.le_of_ble_eq_true rfl)⟩ (c_X5_setOf hok) rfl (fun w418 hw418 => ?_))))
  obtain ⟨M1, hM1, rfl⟩ := hw418
  refine V.icmp_eq h 567 424 dL_law_421 rfl rfl (fun _ => ?_) (fun q => absurd hq q)
  exact nx _ (LR_ask (by first | exact (by rw [hM1 6 (by decide) (by decide)]; exact h6)) hT hH ⟨σ, hc1.1⟩ (fun g hg => hM1 g (by omega) (by omega)) (by omega) ⟨hSim.e12 hE, hFl, mm, hmB, hInv⟩)
theorem law_k11 {X : CX} {w : Wd} {b L c i : Nat} {xsc : Nat → Int32} (h : Cx X cL_law RL 12 600000 7302250) (hXs : va_X b L xsc X.s X.s.heap) (hbl : b < X.s.heap.size) (hbB : b < X.B) (hi : i + 6 ≤ L) (hL : L ≤ 3072) (hR : LR w c (14 * i)) (nx : ∀ w', LR w' c (14 * (i + 6)) → V X 91 1813 567 [some (.ref b), some (.ref c), some (.ref (c + 84)), some (.int (nI i))] [] w') : V X 91 1813 459 [some (.ref b), some (.ref c), some (.ref (c + 84)), some (.int (nI i))] [] w := by
  obtain ⟨n, P, S, H, M, s, l, ⟨σ, hC⟩, hMA, h6, hT, ⟨hSim, hFl, mm, hmB, hInv⟩, hH⟩ := hR
  obtain ⟨np, nq, h4, h8, hP0, hP3, hs0, hs1⟩ := hSim.np hInv
  have hO := hSim.pok hInv
  have hok := hInv.ok
  have hx : (mX M).1 = -1 := h6
  have hn4 := hH.1
  have h3 := hH.2.1
  have hSI : SI P s (14 * i) := ⟨hSim, hFl, mm, hmB, hInv⟩
  obtain ⟨N, hN⟩ : ∃ N, N = 4096 := ⟨_, rfl⟩
  have hq : cCt P N (nI n) (S 1 0) (xsc (nI i + 1).toNatClampNeg) = qCt s (mX M) N np (M 3 0) (M 5 0) (xsc (nI i + 1).toNatClampNeg) := by
    rw [h3, hT.2.1, hT.1.1]
    exact ct_sm hSim hInv hx hs0 h4 _ _ _
  obtain ⟨f, g, v, ew⟩ := hC.id
  have hob := hC.ob
  refine V.at _ ew ?_
  refine V.aload1 h 460 dL_law_459 rfl (V.aload0 h 461 dL_law_460 rfl (V.iload3 h 462 dL_law_461 rfl (V.iconst h 463 dL_law_462 rfl ic1_1 (V.iadd h 464 dL_law_463 rfl (V.sld h 465 dL_law_464 rfl hXs hbl hbB (si1 hi hL) (V.callVe (As := [.int _]) (st := []) h 468 dL_law_465 rfl k458 k455 k456 k457 k1 hd_X4_count ⟨(Nat.le_of_ble_eq_true rfl), (Nat.le_of_ble_eq_true rfl)⟩ (Nat.le_of_ble_eq_true rfl) (ob hob) rfl rfl ⟨(Nat.le_of_ble_eq_true rfl), (Nat.le_of_ble_eq_true rfl)⟩ (c_X4_count hob hO hN hC.so) rfl (fun w465 hw465 => ?_)))))))
  obtain ⟨P1, f1, g1, v1, hE, rfl⟩ := hw465
  have hc1 := hC.ct (P' := P1) (f := f1) (g := g1) (v := v1)
  have hMA1 := hMA.fr hc1.2
  refine V.at _ hMA1.id ?_
  refine V.aload2 h 469 dL_law_468 rfl (V.aload0 h 470 dL_law_469 rfl (V.iload3 h 471 dL_law_470 rfl (V.iconst h 472 dL_law_471 rfl ic1_1 (V.iadd h 473 dL_law_472 rfl (V.sld h 474 dL_law_473 rfl hXs hbl hbB (si1 hi hL) (V.callVe (As := [.int _]) (st := [.int _]) h 477 dL_law_474 rfl k786 k783 k784 k785 k6 hd_X5_count ⟨(Nat.le_of_ble_eq_true rfl), (Nat.le_of_ble_eq_true rfl)⟩ (Nat.le_of_ble_eq_true rfl) zo rfl rfl ⟨(Nat.le_of_ble_eq_true rfl), (Nat.le_of_ble_eq_true rfl)⟩ (c_X5_count hN hok hs0 h4) rfl (fun w474 hw474 => ?_)))))))
  obtain ⟨M1, hM1, rfl⟩ := hw474
  refine V.icmp_eq h 567 480 dL_law_477 rfl rfl (fun _ => ?_) (fun q => absurd hq q)
  exact nx _ (LR_ask (by first | exact (by rw [hM1 6 (by decide) (by decide)]; exact h6)) hT hH ⟨σ, hc1.1⟩ (fun g hg => hM1 g (by omega) (by omega)) (by omega) ⟨hSim.e12 hE, hFl, mm, hmB, hInv⟩)
theorem law_k10 {X : CX} {w : Wd} {b L c i : Nat} {xsc : Nat → Int32} (h : Cx X cL_law RL 12 600000 7302250) (hXs : va_X b L xsc X.s X.s.heap) (hbl : b < X.s.heap.size) (hbB : b < X.B) (hi : i + 6 ≤ L) (hL : L ≤ 3072) (hR : LR w c (14 * i)) (nx : ∀ w', LR w' c (14 * (i + 6)) → V X 91 1813 567 [some (.ref b), some (.ref c), some (.ref (c + 84)), some (.int (nI i))] [] w') : V X 91 1813 426 [some (.ref b), some (.ref c), some (.ref (c + 84)), some (.int (nI i))] [] w := by
  obtain ⟨n, P, S, H, M, s, l, ⟨σ, hC⟩, hMA, h6, hT, ⟨hSim, hFl, mm, hmB, hInv⟩, hH⟩ := hR
  obtain ⟨np, nq, h4, h8, hP0, hP3, hs0, hs1⟩ := hSim.np hInv
  have hO := hSim.pok hInv
  have hok := hInv.ok
  have hx : (mX M).1 = -1 := h6
  have hn4 := hH.1
  have h3 := hH.2.1
  have hSI : SI P s (14 * i) := ⟨hSim, hFl, mm, hmB, hInv⟩
  have hq := or_sm hSim hInv (show mm ≤ 2 ^ 20 by omega) hx (xsc (nI i + 1).toNatClampNeg) (xsc (nI i + 2).toNatClampNeg)
  obtain ⟨f, g, v, K, ew⟩ := hC.idk
  have hk1 := hC.kt (P' := P) (f := f) (g := g) (v := v) (K' := K)
  refine V.at _ ew ?_
  refine V.aload1 h 427 dL_law_426 rfl (V.aload0 h 428 dL_law_427 rfl (V.iload3 h 429 dL_law_428 rfl (V.iconst h 430 dL_law_429 rfl ic1_1 (V.iadd h 431 dL_law_430 rfl (V.sld h 432 dL_law_431 rfl hXs hbl hbB (si1 hi hL) (V.aload0 h 433 dL_law_432 rfl (V.iload3 h 434 dL_law_433 rfl ?_)))))))
  refine V.iconst h 435 dL_law_434 rfl ic1_2 (V.iadd h 436 dL_law_435 rfl (V.sld h 437 dL_law_436 rfl hXs hbl hbB (si2 hi hL) (V.callVe (As := [.int _, .int _]) (st := []) h 440 dL_law_437 rfl k445 k442 k443 k444 k1 hd_X4_orderAt ⟨(Nat.le_of_ble_eq_true rfl), (Nat.le_of_ble_eq_true rfl)⟩ (Nat.le_of_ble_eq_true rfl) hk1.1.ob rfl rfl ⟨(Nat.le_of_ble_eq_true rfl), (Nat.le_of_ble_eq_true rfl)⟩ (c_X4_orderAt hC.ob hO) rfl (fun w437 hw437 => ?_))))
  obtain ⟨f1, g1, v1, K1, rfl⟩ := hw437
  have hc1 := hC.kt (P' := P) (f := f1) (g := g1) (v := v1) (K' := K1)
  have hMA1 := hMA.fr hc1.2
  refine V.at _ hMA1.id ?_
  refine V.aload2 h 441 dL_law_440 rfl (V.aload0 h 442 dL_law_441 rfl (V.iload3 h 443 dL_law_442 rfl (V.iconst h 444 dL_law_443 rfl ic1_1 (V.iadd h 445 dL_law_444 rfl (V.sld h 446 dL_law_445 rfl hXs hbl hbB (si1 hi hL) (V.aload0 h 447 dL_law_446 rfl (V.iload3 h 448 dL_law_447 rfl ?_)))))))
  refine V.iconst h 449 dL_law_448 rfl ic1_2 (V.iadd h 450 dL_law_449 rfl (V.sld h 451 dL_law_450 rfl hXs hbl hbB (si2 hi hL) (V.callVe (As := [.int _, .int _]) (st := [.int _]) h 454 dL_law_451 rfl k778 k775 k776 k777 k6 hd_X5_orderAt ⟨(Nat.le_of_ble_eq_true rfl), (Nat.le_of_ble_eq_true rfl)⟩ (Nat.le_of_ble_eq_true rfl) zo rfl rfl ⟨(Nat.le_of_ble_eq_true rfl), (Nat.le_of_ble_eq_true rfl)⟩ (c_X5_orderAt hok) rfl (fun w451 hw451 => ?_))))
  obtain ⟨M1, hM1, rfl⟩ := hw451
  refine V.icmp_eq h 567 457 dL_law_454 rfl rfl (fun _ => ?_) (fun q => absurd hq.symm q)
  exact nx _ (LR_ask (by rw [hM1 6 (by decide) (by decide)]; exact h6) hT hH ⟨σ, hc1.1⟩ (fun g hg => hM1 g (by omega) (by omega)) (by omega) hSI)
theorem law_k12 {X : CX} {w : Wd} {b L c i : Nat} {xsc : Nat → Int32} (h : Cx X cL_law RL 12 600000 7302250) (hXs : va_X b L xsc X.s X.s.heap) (hbl : b < X.s.heap.size) (hbB : b < X.B) (hi : i + 6 ≤ L) (hL : L ≤ 3072) (hR : LR w c (14 * i)) (nx : ∀ w', LR w' c (14 * (i + 6)) → V X 91 1813 567 [some (.ref b), some (.ref c), some (.ref (c + 84)), some (.int (nI i))] [] w') : V X 91 1813 482 [some (.ref b), some (.ref c), some (.ref (c + 84)), some (.int (nI i))] [] w := by
  obtain ⟨n, P, S, H, M, s, l, ⟨σ, hC⟩, hMA, h6, hT, ⟨hSim, hFl, mm, hmB, hInv⟩, hH⟩ := hR
  obtain ⟨np, nq, h4, h8, hP0, hP3, hs0, hs1⟩ := hSim.np hInv
  have hO := hSim.pok hInv
  have hok := hInv.ok
  have hx : (mX M).1 = -1 := h6
  have hn4 := hH.1
  have h3 := hH.2.1
  have hSI : SI P s (14 * i) := ⟨hSim, hFl, mm, hmB, hInv⟩
  by_cases hn0 : n = 0
  · subst hn0
    refine V.aload1 h 483 dL_law_482 rfl (V.callVe (As := []) (st := []) h 486 dL_law_483 rfl k475 k472 k473 k474 k1 hd_X4_undo ⟨(Nat.le_of_ble_eq_true rfl), (Nat.le_of_ble_eq_true rfl)⟩ (Nat.le_of_ble_eq_true rfl) hC.ob rfl rfl ⟨(Nat.le_of_ble_eq_true rfl), (Nat.le_of_ble_eq_true rfl)⟩ (c_X4_undo hC hn4) rfl (fun w483 hw483 => ?_))
    obtain ⟨hJ, hF⟩ := hw483
    have hMA1 := hMA.fr hF
    refine V.at _ hMA1.id ?_
    refine V.aload2 h 487 dL_law_486 rfl (V.callVf (As := []) (st := [.int _]) h 490 dL_law_487 rfl k802 k799 k800 k801 k6 hd_X5_undo ⟨(Nat.le_of_ble_eq_true rfl), (Nat.le_of_ble_eq_true rfl)⟩ (Nat.le_of_ble_eq_true rfl) zo rfl rfl ⟨(Nat.le_of_ble_eq_true rfl), (Nat.le_of_ble_eq_true rfl)⟩ (c_X5_undo h3 hn4) rfl ?_)
    refine V.icmp_eq h 567 493 dL_law_490 rfl rfl (fun _ => ?_) (fun q => absurd rfl q)
    exact nx _ (LR_ask h6 hT hH hJ (fun _ _ => rfl) (by omega) hSI)
  · have hu := c_X4_undo hC hn4
    rw [if_neg hn0, if_neg hn0] at hu
    have hv := fun w' => c_X5_undo (b := c + 84) (s := s) (w := w') h3 hn4
    simp only [if_neg hn0] at hv
    refine V.aload1 h 483 dL_law_482 rfl (V.callVe (As := []) (st := []) h 486 dL_law_483 rfl k475 k472 k473 k474 k1 hd_X4_undo ⟨(Nat.le_of_ble_eq_true rfl), (Nat.le_of_ble_eq_true rfl)⟩ (Nat.le_of_ble_eq_true rfl) hC.ob rfl rfl ⟨(Nat.le_of_ble_eq_true rfl), (Nat.le_of_ble_eq_true rfl)⟩ hu rfl (fun w483 hw483 => ?_))
    obtain ⟨hJ, hF⟩ := hw483
    have hMA1 := hMA.fr hF
    refine V.at _ hMA1.id ?_
    refine V.aload2 h 487 dL_law_486 rfl (V.callVf (As := []) (st := [.int _]) h 490 dL_law_487 rfl k802 k799 k800 k801 k6 hd_X5_undo ⟨(Nat.le_of_ble_eq_true rfl), (Nat.le_of_ble_eq_true rfl)⟩ (Nat.le_of_ble_eq_true rfl) zo rfl rfl ⟨(Nat.le_of_ble_eq_true rfl), (Nat.le_of_ble_eq_true rfl)⟩ (hv _) rfl ?_)
    refine V.icmp_eq h 567 493 dL_law_490 rfl rfl (fun _ => ?_) (fun q => absurd rfl q)
    refine nx _ ⟨n - 1, H (n - 1), S, H, us M 3 (nI (n - 1)), _, l, hJ.mz, MA_mz, h6, hT, ?_, by omega, rfl, fun i' hi' => (hH.2.2 i' (by omega)).le (by omega)⟩
    refine SI.cg (fun q hq => ?_) ((hH.2.2 (n - 1) (by omega)).le (by omega))
    unfold cp; rw [if_pos hq]
theorem law_k13 {X : CX} {w : Wd} {b L c i : Nat} {xsc : Nat → Int32} (h : Cx X cL_law RL 12 600000 7302250) (hXs : va_X b L xsc X.s X.s.heap) (hbl : b < X.s.heap.size) (hbB : b < X.B) (hi : i + 6 ≤ L) (hL : L ≤ 3072) (hR : LR w c (14 * i)) (nx : ∀ w', LR w' c (14 * (i + 6)) → V X 91 1813 567 [some (.ref b), some (.ref c), some (.ref (c + 84)), some (.int (nI i))] [] w') : V X 91 1813 495 [some (.ref b), some (.ref c), some (.ref (c + 84)), some (.int (nI i))] [] w := by
  obtain ⟨n, P, S, H, M, s, l, ⟨σ, hC⟩, hMA, h6, hT, ⟨hSim, hFl, mm, hmB, hInv⟩, hH⟩ := hR
  obtain ⟨np, nq, h4, h8, hP0, hP3, hs0, hs1⟩ := hSim.np hInv
  have hO := hSim.pok hInv
  have hok := hInv.ok
  have hx : (mX M).1 = -1 := h6
  have hn4 := hH.1
  have h3 := hH.2.1
  have hSI : SI P s (14 * i) := ⟨hSim, hFl, mm, hmB, hInv⟩
  have hl80 := hT.1.2.1
  have e : (cTy S l (xsc (nI i + 1).toNatClampNeg)).1 = (mTy M (xsc (nI i + 1).toNatClampNeg)).1 ∧ ∃ l', TM (cTy S l (xsc (nI i + 1).toNatClampNeg)).2 (mTy M (xsc (nI i + 1).toNatClampNeg)).2 l' ∧ (∀ g, g ≠ 4 → g ≠ 5 → (mTy M (xsc (nI i + 1).toNatClampNeg)).2 g = M g) := by
    unfold cTy mTy
    by_cases hr : rng 32 (xsc (nI i + 1).toNatClampNeg) 126 = true
    · rw [if_pos hr, if_pos hr]
      by_cases hl : l = 80
      · rw [if_pos hl, if_pos (show M 5 0 = 80 by rw [hT.2.1, hl]; rfl)]
        exact ⟨rfl, l, hT, fun _ _ _ => rfl⟩
      · rw [if_neg hl, if_neg (show ¬ M 5 0 = 80 by rw [hT.2.1]; exact fun q => hl (nI_inj (by omega) (by decide) q)), hT.2.1, nI_tn (by omega)]
        refine ⟨nI_succ l, l + 1, ⟨⟨rfl, by omega, fun k => ?_⟩, (nI_succ l).symm, ?_⟩, fun g a b' => (if_neg b').trans (if_neg a)⟩
        · show ∃ q, q < 127 ∧ upd (S 0) l (xsc (nI i + 1).toNatClampNeg) k = nI q
          by_cases hk : k = l
          · rw [hk, upd_eq]
            unfold rng at hr
            rw [Bool.and_eq_true] at hr
            obtain ⟨q, hq, eq⟩ := nI_of (x := (xsc (nI i + 1).toNatClampNeg)) (fun q => absurd (Int32.lt_of_lt_of_le q (by decide : (0 : Int32) ≤ 32)) (le_n (of_decide_eq_true hr.1)))
            have h1 := of_decide_eq_true hr.2
            rw [eq] at h1
            have := (nI_leI (a := q) (b := 126) hq (by decide)).mp h1
            exact ⟨q, by omega, eq⟩
          · rw [upd_ne hk]; exact hT.1.2.2 k
        · show upd (S 0) l _ = upd (M 4) l _
          rw [hT.2.2]
    · rw [if_neg hr, if_neg hr]
      exact ⟨rfl, l, hT, fun _ _ _ => rfl⟩
  obtain ⟨e1, l', hT', hk⟩ := e
  refine V.aload1 h 496 dL_law_495 rfl (V.aload0 h 497 dL_law_496 rfl (V.iload3 h 498 dL_law_497 rfl (V.iconst h 499 dL_law_498 rfl ic1_1 (V.iadd h 500 dL_law_499 rfl (V.sld h 501 dL_law_500 rfl hXs hbl hbB (si1 hi hL) (V.callVe (As := [.int _]) (st := []) h 504 dL_law_501 rfl k479 k476 k477 k478 k1 hd_X4_type ⟨(Nat.le_of_ble_eq_true rfl), (Nat.le_of_ble_eq_true rfl)⟩ (Nat.le_of_ble_eq_true rfl) hC.ob rfl rfl ⟨(Nat.le_of_ble_eq_true rfl), (Nat.le_of_ble_eq_true rfl)⟩ (c_X4_type hC hT.1) rfl (fun w501 hw501 => ?_)))))))
  obtain ⟨hJ, hF⟩ := hw501
  have hMA1 := hMA.fr hF
  refine V.at _ hMA1.id ?_
  refine V.aload2 h 505 dL_law_504 rfl (V.aload0 h 506 dL_law_505 rfl (V.iload3 h 507 dL_law_506 rfl (V.iconst h 508 dL_law_507 rfl ic1_1 (V.iadd h 509 dL_law_508 rfl (V.sld h 510 dL_law_509 rfl hXs hbl hbB (si1 hi hL) (V.callVf (As := [.int _]) (st := [.int _]) h 513 dL_law_510 rfl k806 k803 k804 k805 k6 hd_X5_type ⟨(Nat.le_of_ble_eq_true rfl), (Nat.le_of_ble_eq_true rfl)⟩ (Nat.le_of_ble_eq_true rfl) zo rfl rfl ⟨(Nat.le_of_ble_eq_true rfl), (Nat.le_of_ble_eq_true rfl)⟩ (c_X5_type hT.2.1 hT.1.2.1) rfl ?_))))))
  refine V.icmp_eq h 567 516 dL_law_513 rfl rfl (fun _ => ?_) (fun q => absurd e1 q)
  exact nx _ ⟨n, P, _, H, _, s, l', hJ.mz, MA_mz, by rw [hk 6 (by decide) (by decide)]; exact h6, hT', hSI.le (by omega), (hH.cg (fun _ _ => rfl) (hk 2 (by decide) (by decide)) (hk 3 (by decide) (by decide))).le (by omega)⟩
theorem law_k14 {X : CX} {w : Wd} {b L c i : Nat} {xsc : Nat → Int32} (h : Cx X cL_law RL 12 600000 7302250) (hXs : va_X b L xsc X.s X.s.heap) (hbl : b < X.s.heap.size) (hbB : b < X.B) (hi : i + 6 ≤ L) (hL : L ≤ 3072) (hR : LR w c (14 * i)) (nx : ∀ w', LR w' c (14 * (i + 6)) → V X 91 1813 567 [some (.ref b), some (.ref c), some (.ref (c + 84)), some (.int (nI i))] [] w') : V X 91 1813 518 [some (.ref b), some (.ref c), some (.ref (c + 84)), some (.int (nI i))] [] w := by
  obtain ⟨n, P, S, H, M, s, l, ⟨σ, hC⟩, hMA, h6, hT, ⟨hSim, hFl, mm, hmB, hInv⟩, hH⟩ := hR
  obtain ⟨np, nq, h4, h8, hP0, hP3, hs0, hs1⟩ := hSim.np hInv
  have hO := hSim.pok hInv
  have hok := hInv.ok
  have hx : (mX M).1 = -1 := h6
  have hn4 := hH.1
  have h3 := hH.2.1
  have hSI : SI P s (14 * i) := ⟨hSim, hFl, mm, hmB, hInv⟩
  refine V.aload1 h 519 dL_law_518 rfl (V.callVe (As := []) (st := []) h 522 dL_law_519 rfl k487 k484 k485 k486 k1 hd_X4_clearText ⟨(Nat.le_of_ble_eq_true rfl), (Nat.le_of_ble_eq_true rfl)⟩ (Nat.le_of_ble_eq_true rfl) hC.ob rfl rfl ⟨(Nat.le_of_ble_eq_true rfl), (Nat.le_of_ble_eq_true rfl)⟩ (c_X4_clearText hC) rfl (fun w519 hw519 => ?_))
  obtain ⟨hJ, hF⟩ := hw519
  have hMA1 := hMA.fr hF
  refine V.at _ hMA1.id ?_
  refine V.aload2 h 523 dL_law_522 rfl (V.callVf (As := []) (st := [.int _]) h 526 dL_law_523 rfl k810 k807 k808 k809 k6 hd_X5_clearText ⟨(Nat.le_of_ble_eq_true rfl), (Nat.le_of_ble_eq_true rfl)⟩ (Nat.le_of_ble_eq_true rfl) zo rfl rfl ⟨(Nat.le_of_ble_eq_true rfl), (Nat.le_of_ble_eq_true rfl)⟩ c_X5_clearText rfl ?_)
  refine V.icmp_eq h 567 529 dL_law_526 rfl rfl (fun _ => ?_) (fun q => absurd (show S 1 0 = M 5 0 from hT.1.1.trans hT.2.1.symm) q)
  exact nx _ ⟨n, P, us S 1 0, H, us M 5 0, s, 0, hJ.mz, MA_mz, h6, ⟨⟨rfl, by omega, hT.1.2.2⟩, rfl, hT.2.2⟩, hSI.le (by omega), (hH.cg (fun _ _ => rfl) rfl rfl).le (by omega)⟩
theorem law_k15 {X : CX} {w : Wd} {b L c i : Nat} {xsc : Nat → Int32} (h : Cx X cL_law RL 12 600000 7302250) (hXs : va_X b L xsc X.s X.s.heap) (hbl : b < X.s.heap.size) (hbB : b < X.B) (hi : i + 6 ≤ L) (hL : L ≤ 3072) (hR : LR w c (14 * i)) (nx : ∀ w', LR w' c (14 * (i + 6)) → V X 91 1813 567 [some (.ref b), some (.ref c), some (.ref (c + 84)), some (.int (nI i))] [] w') : V X 91 1813 531 [some (.ref b), some (.ref c), some (.ref (c + 84)), some (.int (nI i))] [] w := by
  obtain ⟨n, P, S, H, M, s, l, ⟨σ, hC⟩, hMA, h6, hT, ⟨hSim, hFl, mm, hmB, hInv⟩, hH⟩ := hR
  obtain ⟨np, nq, h4, h8, hP0, hP3, hs0, hs1⟩ := hSim.np hInv
  have hO := hSim.pok hInv
  have hok := hInv.ok
  have hx : (mX M).1 = -1 := h6
  have hn4 := hH.1
  have h3 := hH.2.1
  have hSI : SI P s (14 * i) := ⟨hSim, hFl, mm, hmB, hInv⟩
  have hq := fa_sm (what := (xsc (nI i + 1).toNatClampNeg)) hSim hInv hFl h6 hT.2.2 hT.1.2.1
  refine V.aload1 h 532 dL_law_531 rfl (V.aload0 h 533 dL_law_532 rfl (V.iload3 h 534 dL_law_533 rfl (V.iconst h 535 dL_law_534 rfl ic1_1 (V.iadd h 536 dL_law_535 rfl (V.sld h 537 dL_law_536 rfl hXs hbl hbB (si1 hi hL) (V.callVe (As := [.int _]) (st := []) h 540 dL_law_537 rfl k495 k492 k493 k494 k1 hd_X4_fault ⟨(Nat.le_of_ble_eq_true rfl), (Nat.le_of_ble_eq_true rfl)⟩ (Nat.le_of_ble_eq_true rfl) hC.ob rfl rfl ⟨(Nat.le_of_ble_eq_true rfl), (Nat.le_of_ble_eq_true rfl)⟩ (c_X4_fault hC hT.1 IP IP.pre IP.st ⟨s, mm, hSim, hInv⟩) rfl (fun w537 hw537 => ?_)))))))
  obtain ⟨S1, eS0, eS1, hJ, hF⟩ := hw537
  have hMA1 := hMA.fr hF
  refine V.at _ hMA1.id ?_
  refine V.aload2 h 541 dL_law_540 rfl (V.aload0 h 542 dL_law_541 rfl (V.iload3 h 543 dL_law_542 rfl (V.iconst h 544 dL_law_543 rfl ic1_1 (V.iadd h 545 dL_law_544 rfl (V.sld h 546 dL_law_545 rfl hXs hbl hbB (si1 hi hL) (V.callVe (As := [.int _]) (st := [.int _]) h 549 dL_law_546 rfl k814 k811 k812 k813 k6 hd_X5_fault ⟨(Nat.le_of_ble_eq_true rfl), (Nat.le_of_ble_eq_true rfl)⟩ (Nat.le_of_ble_eq_true rfl) zo rfl rfl ⟨(Nat.le_of_ble_eq_true rfl), (Nat.le_of_ble_eq_true rfl)⟩ (c_X5_fault hT.2.1 hT.1.2.1 IS (fun s h => IS.pre s h) (IS.st hx) ⟨P, mm, hSim, hInv⟩) rfl (fun w546 hw546 => ?_)))))))
  obtain ⟨M1, hM1, rfl⟩ := hw546
  refine V.icmp_eq h 567 552 dL_law_549 rfl rfl (fun _ => ?_) (fun q => absurd hq q)
  have hk : ∀ g, g = 2 ∨ g = 3 ∨ g = 4 ∨ g = 5 ∨ g = 6 → M1 g = M g := fun g hg => hM1 g (by omega) (by omega) (by omega) (by omega) (by omega) (by omega) (by omega) (by omega)
  exact nx _ ⟨n, P, S1, H, M1, s, l, hJ.mz, MA_mz, by rw [hk 6 (by omega)]; exact h6, ⟨⟨by rw [eS1]; exact hT.1.1, hT.1.2.1, by rw [eS0]; exact hT.1.2.2⟩, by rw [hk 5 (by omega)]; exact hT.2.1, by rw [eS0, hk 4 (by omega)]; exact hT.2.2⟩, hSI.le (by omega), (hH.cg (fun _ _ => rfl) (hk 2 (by omega)) (hk 3 (by omega))).le (by omega)⟩
theorem law_k16 {X : CX} {w : Wd} {b L c i : Nat} {xsc : Nat → Int32} (h : Cx X cL_law RL 12 600000 7302250) (hXs : va_X b L xsc X.s X.s.heap) (hbl : b < X.s.heap.size) (hbB : b < X.B) (hi : i + 6 ≤ L) (hL : L ≤ 3072) (hR : LR w c (14 * i)) (nx : ∀ w', LR w' c (14 * (i + 6)) → V X 91 1813 567 [some (.ref b), some (.ref c), some (.ref (c + 84)), some (.int (nI i))] [] w') : V X 91 1813 554 [some (.ref b), some (.ref c), some (.ref (c + 84)), some (.int (nI i))] [] w := by
  obtain ⟨n, P, S, H, M, s, l, ⟨σ, hC⟩, hMA, h6, hT, ⟨hSim, hFl, mm, hmB, hInv⟩, hH⟩ := hR
  obtain ⟨np, nq, h4, h8, hP0, hP3, hs0, hs1⟩ := hSim.np hInv
  have hO := hSim.pok hInv
  have hok := hInv.ok
  have hx : (mX M).1 = -1 := h6
  have hn4 := hH.1
  have h3 := hH.2.1
  have hSI : SI P s (14 * i) := ⟨hSim, hFl, mm, hmB, hInv⟩
  have hl80 := hT.1.2.1
  have hr := rn_sm (T := M 4) (n := l) (x := mX M) hx hl80 (l + 1) 0 0 P s (S 2) (M 14) mm hSim hInv hFl (by omega)
  have hle := cRn_le (M 4) l (l + 1) 0 0 P (S 2)
  have e1 : cRn (M 4) l (l + 1) 0 0 P (S 2) = cTr S l P := by unfold cTr; rw [hT.2.2]
  have e2 : mRun (M 4) l (mX M) (l + 1) 0 0 s (M 14) = rRun M l s := rfl
  rw [e1, e2] at hr
  rw [e1] at hle
  have hcp := c_X4_play hC hn4 hT.1 IP IP.pre IP.st ⟨s, mm, hSim, hInv⟩
  have hmp := fun w' => c_X5_play (b := c + 84) (w := w') hT.2.1 hT.1.2.1 IS (fun s h => IS.pre (x := mX M) s h) (IS.st hx) ⟨P, mm, hSim, hInv⟩ h3 hn4
  unfold pyR at hcp
  have hTM : ∀ (S1 M1 : Pl), S1 0 = S 0 → S1 1 = S 1 → M1 4 = M 4 → M1 5 = M 5 → TM S1 M1 l := fun S1 M1 a b' d f => ⟨⟨by rw [b']; exact hT.1.1, hl80, by rw [a]; exact hT.1.2.2⟩, by rw [f]; exact hT.2.1, by rw [a, d]; exact hT.2.2⟩
  rcases hr with ⟨a1, a2, a3, a4, m', a5, a6⟩ | ⟨b1, b2, b3, b4, b5⟩
  · have ha : ¬ nI (cTr S l P).1 < 0 := nI_pos (by omega)
    rw [show (cTr S l P).2.2.2.1 = -4 by rw [a1], decide_eq_true rfl, if_pos rfl, if_pos rfl, if_pos rfl, if_pos rfl] at hcp
    rw [a2] at hmp
    simp only [if_neg (neg1 (show (cTr S l P).1 < 2 ^ 29 by omega)), m1_sub] at hmp
    refine V.aload1 h 555 dL_law_554 rfl (V.callVe (As := []) (st := []) h 558 dL_law_555 rfl k533 k530 k531 k532 k1 hd_X4_play ⟨(Nat.le_of_ble_eq_true rfl), (Nat.le_of_ble_eq_true rfl)⟩ (Nat.le_of_ble_eq_true rfl) hC.ob rfl rfl ⟨(Nat.le_of_ble_eq_true rfl), (Nat.le_of_ble_eq_true rfl)⟩ hcp rfl (fun w555 hw555 => ?_))
    obtain ⟨S1, eS0, eS1, hJ, hF⟩ := hw555
    have hMA1 := hMA.fr hF
    refine V.at _ hMA1.id ?_
    refine V.aload2 h 559 dL_law_558 rfl (V.callVe (As := []) (st := [.int _]) h 562 dL_law_559 rfl k842 k839 k840 k841 k6 hd_X5_play ⟨(Nat.le_of_ble_eq_true rfl), (Nat.le_of_ble_eq_true rfl)⟩ (Nat.le_of_ble_eq_true rfl) zo rfl rfl ⟨(Nat.le_of_ble_eq_true rfl), (Nat.le_of_ble_eq_true rfl)⟩ (hmp _) rfl (fun w559 hw559 => ?_))
    obtain ⟨M1, hM1, rfl⟩ := hw559
    refine V.icmp_eq h 567 565 dL_law_562 rfl rfl (fun _ => ?_) (fun q => absurd rfl q)
    have hJ' : CJ w555 c (nxN n (nI (cTr S l P).1)) (cTr S l P).2.1 S1 (nxH n (uH H n P) (nI (cTr S l P).1)) := by unfold nxN nxH; rw [if_neg ha, if_neg ha]; exact hJ
    have hch : HM (nxH n (uH H n P) (nI (cTr S l P).1)) M1 (nxN n (nI (cTr S l P).1)) (14 * i) := hH.chg hSI hM1
    exact nx _ ⟨_, _, S1, _, M1, _, l, hJ'.mz, MA_mz, by rw [hM1.keep (Or.inr (Or.inr rfl))]; exact h6, hTM S1 M1 eS0 eS1 (hM1.keep (Or.inl rfl)) (hM1.keep (Or.inr (Or.inl rfl))), ⟨a3, a4, m', by omega, a6⟩, hch.le (by omega)⟩
  · rw [decide_eq_false b4, if_neg Bool.false_ne_true, if_neg Bool.false_ne_true, if_neg Bool.false_ne_true, if_neg Bool.false_ne_true] at hcp
    simp only [if_pos b1] at hmp
    refine V.aload1 h 555 dL_law_554 rfl (V.callVe (As := []) (st := []) h 558 dL_law_555 rfl k533 k530 k531 k532 k1 hd_X4_play ⟨(Nat.le_of_ble_eq_true rfl), (Nat.le_of_ble_eq_true rfl)⟩ (Nat.le_of_ble_eq_true rfl) hC.ob rfl rfl ⟨(Nat.le_of_ble_eq_true rfl), (Nat.le_of_ble_eq_true rfl)⟩ hcp rfl (fun w555 hw555 => ?_))
    obtain ⟨S1, eS0, eS1, hJ, hF⟩ := hw555
    have hMA1 := hMA.fr hF
    refine V.at _ hMA1.id ?_
    refine V.aload2 h 559 dL_law_558 rfl (V.callVe (As := []) (st := [.int _]) h 562 dL_law_559 rfl k842 k839 k840 k841 k6 hd_X5_play ⟨(Nat.le_of_ble_eq_true rfl), (Nat.le_of_ble_eq_true rfl)⟩ (Nat.le_of_ble_eq_true rfl) zo rfl rfl ⟨(Nat.le_of_ble_eq_true rfl), (Nat.le_of_ble_eq_true rfl)⟩ (hmp _) rfl (fun w559 hw559 => ?_))
    obtain ⟨M1, hM1, rfl⟩ := hw559
    refine V.icmp_eq h 567 565 dL_law_562 rfl rfl (fun _ => ?_) (fun q => absurd rfl q)
    have hk : ∀ g, g = 2 ∨ g = 3 ∨ g = 4 ∨ g = 5 ∨ g = 6 → M1 g = M g := fun g hg => by
      unfold Chg at hM1
      rw [if_pos (show ((-2 : Int32), s).1 < 0 from (by decide : (-2 : Int32) < 0))] at hM1
      exact hM1 g (by omega) (by omega) (by omega) (by omega) (by omega) (by omega) (by omega) (by omega)
    exact nx _ ⟨n, P, S1, H, M1, s, l, hJ.mz, MA_mz, by rw [hk 6 (by omega)]; exact h6, hTM S1 M1 eS0 eS1 (hk 4 (by omega)) (hk 5 (by omega)), hSI.le (by omega), (hH.cg (fun _ _ => rfl) (hk 2 (by omega)) (hk 3 (by omega))).le (by omega)⟩
