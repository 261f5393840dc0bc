def LC (Γ : GG) (b L : Nat) (xs : Nat → Int32) : Prop := CX Γ cL_law 4 RL 8 717199 6950652 ∧ va_X b L xs (g_s Γ) (g_s Γ).heap ∧ b < g_z Γ ∧ g_z Γ = (g_s Γ).heap.size ∧ L ≤ 3072
section LAWROWS
variable {Γ : GG} {b L : Nat} {xs : Nat → Int32} {h : Hp} {sz k n pc : Nat} {lv : LV} {st : List Value}
theorem aw_sld (Q : LC Γ b L xs) {i : Int32} (hin : vp_in i L) (hd : decode cL_law pc = .ok (.iaload, 1)) (kk : AW Γ 4 h sz k n (pc + 1) lv (.int (xs i.toNatClampNeg) :: st)) : AW Γ 4 h sz k n pc lv (.int i :: va_rf (some b) :: st) :=
  fun H locs ls a0 b0 c d => va_sld Q.1.1 Q.1.2.1 Q.2.1 (by rw [← Q.2.2.2.1]; exact Q.2.2.1) (Nat.not_le.mpr Q.2.2.1) c hin hd (kk H locs ls a0 b0 c d)
theorem aw_slen (Q : LC Γ b L xs) (hd : decode cL_law pc = .ok (.arraylength, 1)) (kk : AW Γ 4 h sz k n (pc + 1) lv (.int (nI L) :: st)) : AW Γ 4 h sz k n pc lv (va_rf (some b) :: st) :=
  fun H locs ls a0 b0 c d => va_slen Q.1.1 Q.1.2.1 Q.2.1 (by rw [← Q.2.2.2.1]; exact Q.2.2.1) (Nat.not_le.mpr Q.2.2.1) c hd (kk H locs ls a0 b0 c d)
end LAWROWS
theorem law_ix {j q L : Nat} (h : j + 6 ≤ L) (hq : q < 6) (hL : L ≤ 3072) : vp_in (nI j + nI q) L := by
  rw [nI_add]
  exact vp_in_nI (by omega) (by omega)
abbrev lawv (b x m j : Nat) : LV := [(0, .inr (some b)), (1, .inr (some x)), (2, .inr (some m)), (3, .inl (nI j))]
def St_type (I : Hp → Nat → Prop) (x m N : Nat) : Prop := ∀ (h : Hp) (sz : Nat) (a1 : Int32), I h sz → ∃ (r : Int32) (h1 : Hp) (sz1 : Nat) (h2 : Hp), (fX5_type N h (some x) a1 = some (r, h1) ∧ sz1 = sz) ∧ isO h1 (some m) 6 = true ∧ (fX6_type N h1 (some m) a1 = some (r, h2)) ∧ I h2 sz1
set_option maxHeartbeats 4000000 in
set_option maxRecDepth 100000 in
theorem law_type {Γ : GG} {b L : Nat} {xs : Nat → Int32} (Q : LC Γ b L xs) {I : Hp → Nat → Prop} {x m N : Nat} (S : St_type I x m N) {h : Hp} {sz k n j : Nat} (hI : I h sz) (hO : isO h (some x) 5 = true) (hj : j + 6 ≤ L) (hk : k + 7 ≤ 717199) (hn : n + 46 ≤ 6950652) (next : ∀ (h : Hp) (sz : Nat), I h sz → AW Γ 4 h sz (k + 7) (n + 46) 965 (lawv b x m j) []) : AW Γ 4 h sz k n 160 (lawv b x m j) [] := by
  have C := Q.1
  have hL := Q.2.2.2.2
  obtain ⟨r, h1, sz1, h2, e1, hO1, e2, hI2⟩ := S h sz (xs (nI j + (1 : Int32)).toNatClampNeg) hI
  obtain ⟨e1, rfl⟩ := e1
  refine aw_aload_n C dL_law_160 rfl (j := 1) rfl ?_
  refine aw_aload_n C dL_law_161 rfl (j := 0) rfl ?_
  refine aw_iload_n C dL_law_162 rfl (j := 3) rfl ?_
  refine aw_iconst (v := 1) C dL_law_163 (by decide) ?_
  refine aw_iadd C dL_law_164 ?_
  refine aw_sld Q (law_ix (q := 1) hj (by decide) hL) dL_law_165 ?_
  refine aw_callV (ci := 5) C mb_L_13 ⟨q_237, q_238, rfl⟩ hO (cX5_type_ _ _ _ _ e1) dL_law_166 rfl (rest := []) rfl (cat_le _ (Nat.le_of_ble_eq_true rfl)) (by decide) (by omega) (by omega) (st2 := [.int r]) rfl ?_
  refine aw_aload_n C dL_law_169 rfl (j := 2) rfl ?_
  refine aw_aload_n C dL_law_170 rfl (j := 0) rfl ?_
  refine aw_iload_n C dL_law_171 rfl (j := 3) rfl ?_
  refine aw_iconst (v := 1) C dL_law_172 (by decide) ?_
  refine aw_iadd C dL_law_173 ?_
  refine aw_sld Q (law_ix (q := 1) hj (by decide) hL) dL_law_174 ?_
  refine aw_callV (ci := 6) C mb_L_17 ⟨q_870, q_871, rfl⟩ hO1 (cX6_type_ _ _ _ _ e2) dL_law_175 rfl (rest := [.int r]) rfl (cat_le _ (Nat.le_of_ble_eq_true rfl)) (by decide) (by omega) (by omega) (st2 := [.int r, .int r]) rfl ?_
  refine aw_ic_eq (tgt := 965) C dL_law_178 (by decide) (fun hc => ?_) (fun hc => absurd rfl hc)
  exact aw_wide (by omega) (by omega) (next _ _ hI2)
def St_clear (I : Hp → Nat → Prop) (x m N : Nat) : Prop := ∀ (h : Hp) (sz : Nat), I h sz → ∃ (r : Int32) (h1 : Hp) (sz1 : Nat) (h2 : Hp), (fX5_clear N h (some x) = some (r, h1) ∧ sz1 = sz) ∧ isO h1 (some m) 6 = true ∧ (fX6_clear N h1 (some m) = some (r, h2)) ∧ I h2 sz1
set_option maxHeartbeats 4000000 in
set_option maxRecDepth 100000 in
theorem law_clear {Γ : GG} {b L : Nat} {xs : Nat → Int32} (Q : LC Γ b L xs) {I : Hp → Nat → Prop} {x m N : Nat} (S : St_clear I x m N) {h : Hp} {sz k n j : Nat} (hI : I h sz) (hO : isO h (some x) 5 = true) (hj : j + 6 ≤ L) (hk : k + 7 ≤ 717199) (hn : n + 46 ≤ 6950652) (next : ∀ (h : Hp) (sz : Nat), I h sz → AW Γ 4 h sz (k + 7) (n + 46) 965 (lawv b x m j) []) : AW Γ 4 h sz k n 183 (lawv b x m j) [] := by
  have C := Q.1
  have hL := Q.2.2.2.2
  obtain ⟨r, h1, sz1, h2, e1, hO1, e2, hI2⟩ := S h sz  hI
  obtain ⟨e1, rfl⟩ := e1
  refine aw_aload_n C dL_law_183 rfl (j := 1) rfl ?_
  refine aw_callV (ci := 5) C mb_L_18 ⟨q_248, q_249, rfl⟩ hO (cX5_clear_ _ _ _ _ e1) dL_law_184 rfl (rest := []) rfl (cat_le _ (Nat.le_of_ble_eq_true rfl)) (by decide) (by omega) (by omega) (st2 := [.int r]) rfl ?_
  refine aw_aload_n C dL_law_187 rfl (j := 2) rfl ?_
  refine aw_callV (ci := 6) C mb_L_22 ⟨q_877, q_878, rfl⟩ hO1 (cX6_clear_ _ _ _ _ e2) dL_law_188 rfl (rest := [.int r]) rfl (cat_le _ (Nat.le_of_ble_eq_true rfl)) (by decide) (by omega) (by omega) (st2 := [.int r, .int r]) rfl ?_
  refine aw_ic_eq (tgt := 965) C dL_law_191 (by decide) (fun hc => ?_) (fun hc => absurd rfl hc)
  exact aw_wide (by omega) (by omega) (next _ _ hI2)
def St_box (I : Hp → Nat → Prop) (x m N : Nat) : Prop := ∀ (h : Hp) (sz : Nat), I h sz → ∃ (r : Int32) (h1 : Hp) (sz1 : Nat) (h2 : Hp), (fX5_box N h sz (some x) = some (r, h1, sz1)) ∧ isO h1 (some m) 6 = true ∧ (fX6_box N h1 (some m) = some (r, h2)) ∧ I h2 sz1
set_option maxHeartbeats 4000000 in
set_option maxRecDepth 100000 in
theorem law_box {Γ : GG} {b L : Nat} {xs : Nat → Int32} (Q : LC Γ b L xs) {I : Hp → Nat → Prop} {x m N : Nat} (S : St_box I x m N) {h : Hp} {sz k n j : Nat} (hI : I h sz) (hO : isO h (some x) 5 = true) (hj : j + 6 ≤ L) (hk : k + 7 ≤ 717199) (hn : n + 46 ≤ 6950652) (next : ∀ (h : Hp) (sz : Nat), I h sz → AW Γ 4 h sz (k + 7) (n + 46) 965 (lawv b x m j) []) : AW Γ 4 h sz k n 196 (lawv b x m j) [] := by
  have C := Q.1
  have hL := Q.2.2.2.2
  obtain ⟨r, h1, sz1, h2, e1, hO1, e2, hI2⟩ := S h sz  hI
  refine aw_aload_n C dL_law_196 rfl (j := 1) rfl ?_
  refine aw_callV (ci := 5) C mb_L_23 ⟨q_256, q_257, rfl⟩ hO (cX5_box_ _ _ _ _ e1) dL_law_197 rfl (rest := []) rfl (cat_le _ (Nat.le_of_ble_eq_true rfl)) (by decide) (by omega) (by omega) (st2 := [.int r]) rfl ?_
  refine aw_aload_n C dL_law_200 rfl (j := 2) rfl ?_
  refine aw_callV (ci := 6) C mb_L_26 ⟨q_881, q_882, rfl⟩ hO1 (cX6_box_ _ _ _ _ e2) dL_law_201 rfl (rest := [.int r]) rfl (cat_le _ (Nat.le_of_ble_eq_true rfl)) (by decide) (by omega) (by omega) (st2 := [.int r, .int r]) rfl ?_
  refine aw_ic_eq (tgt := 965) C dL_law_204 (by decide) (fun hc => ?_) (fun hc => absurd rfl hc)
  exact aw_wide (by omega) (by omega) (next _ _ hI2)
def St_ring (I : Hp → Nat → Prop) (x m N : Nat) : Prop := ∀ (h : Hp) (sz : Nat) (a1 : Int32), I h sz → ∃ (r : Int32) (h1 : Hp) (sz1 : Nat) (h2 : Hp), (fX5_ring N h (some x) a1 = some r ∧ h1 = h ∧ sz1 = sz) ∧ isO h1 (some m) 6 = true ∧ (fX6_ring N h1 (some m) a1 = some r ∧ h2 = h1) ∧ I h2 sz1
set_option maxHeartbeats 4000000 in
set_option maxRecDepth 100000 in
theorem law_ring {Γ : GG} {b L : Nat} {xs : Nat → Int32} (Q : LC Γ b L xs) {I : Hp → Nat → Prop} {x m N : Nat} (S : St_ring I x m N) {h : Hp} {sz k n j : Nat} (hI : I h sz) (hO : isO h (some x) 5 = true) (hj : j + 6 ≤ L) (hk : k + 7 ≤ 717199) (hn : n + 46 ≤ 6950652) (next : ∀ (h : Hp) (sz : Nat), I h sz → AW Γ 4 h sz (k + 7) (n + 46) 965 (lawv b x m j) []) : AW Γ 4 h sz k n 209 (lawv b x m j) [] := by
  have C := Q.1
  have hL := Q.2.2.2.2
  obtain ⟨r, h1, sz1, h2, e1, hO1, e2, hI2⟩ := S h sz (xs (nI j + (1 : Int32)).toNatClampNeg) hI
  obtain ⟨e1, rfl, rfl⟩ := e1
  obtain ⟨e2, rfl⟩ := e2
  refine aw_aload_n C dL_law_209 rfl (j := 1) rfl ?_
  refine aw_aload_n C dL_law_210 rfl (j := 0) rfl ?_
  refine aw_iload_n C dL_law_211 rfl (j := 3) rfl ?_
  refine aw_iconst (v := 1) C dL_law_212 (by decide) ?_
  refine aw_iadd C dL_law_213 ?_
  refine aw_sld Q (law_ix (q := 1) hj (by decide) hL) dL_law_214 ?_
  refine aw_callV (ci := 5) C mb_L_27 ⟨q_350, q_351, rfl⟩ hO (cX5_ring_ _ _ _ _ e1) dL_law_215 rfl (rest := []) rfl (cat_le _ (Nat.le_of_ble_eq_true rfl)) (by decide) (by omega) (by omega) (st2 := [.int r]) rfl ?_
  refine aw_aload_n C dL_law_218 rfl (j := 2) rfl ?_
  refine aw_aload_n C dL_law_219 rfl (j := 0) rfl ?_
  refine aw_iload_n C dL_law_220 rfl (j := 3) rfl ?_
  refine aw_iconst (v := 1) C dL_law_221 (by decide) ?_
  refine aw_iadd C dL_law_222 ?_
  refine aw_sld Q (law_ix (q := 1) hj (by decide) hL) dL_law_223 ?_
  refine aw_callV (ci := 6) C mb_L_30 ⟨q_917, q_918, rfl⟩ hO1 (cX6_ring_ _ _ _ _ e2) dL_law_224 rfl (rest := [.int r]) rfl (cat_le _ (Nat.le_of_ble_eq_true rfl)) (by decide) (by omega) (by omega) (st2 := [.int r, .int r]) rfl ?_
  refine aw_ic_eq (tgt := 965) C dL_law_227 (by decide) (fun hc => ?_) (fun hc => absurd rfl hc)
  exact aw_wide (by omega) (by omega) (next _ _ hI2)
def St_wheel (I : Hp → Nat → Prop) (x m N : Nat) : Prop := ∀ (h : Hp) (sz : Nat) (a1 : Int32) (a2 : Int32) (a3 : Int32), I h sz → ∃ (r : Int32) (h1 : Hp) (sz1 : Nat) (h2 : Hp), (fX5_wheel N h (some x) a1 a2 a3 = some r ∧ h1 = h ∧ sz1 = sz) ∧ isO h1 (some m) 6 = true ∧ (fX6_wheel N h1 (some m) a1 a2 a3 = some r ∧ h2 = h1) ∧ I h2 sz1
set_option maxHeartbeats 4000000 in
set_option maxRecDepth 100000 in
theorem law_wheel {Γ : GG} {b L : Nat} {xs : Nat → Int32} (Q : LC Γ b L xs) {I : Hp → Nat → Prop} {x m N : Nat} (S : St_wheel I x m N) {h : Hp} {sz k n j : Nat} (hI : I h sz) (hO : isO h (some x) 5 = true) (hj : j + 6 ≤ L) (hk : k + 7 ≤ 717199) (hn : n + 46 ≤ 6950652) (next : ∀ (h : Hp) (sz : Nat), I h sz → AW Γ 4 h sz (k + 7) (n + 46) 965 (lawv b x m j) []) : AW Γ 4 h sz k n 232 (lawv b x m j) [] := by
  have C := Q.1
  have hL := Q.2.2.2.2
  obtain ⟨r, h1, sz1, h2, e1, hO1, e2, hI2⟩ := S h sz (xs (nI j + (1 : Int32)).toNatClampNeg) (xs (nI j + (2 : Int32)).toNatClampNeg) (xs (nI j + (3 : Int32)).toNatClampNeg) hI
  obtain ⟨e1, rfl, rfl⟩ := e1
  obtain ⟨e2, rfl⟩ := e2
  refine aw_aload_n C dL_law_232 rfl (j := 1) rfl ?_
  refine aw_aload_n C dL_law_233 rfl (j := 0) rfl ?_
  refine aw_iload_n C dL_law_234 rfl (j := 3) rfl ?_
  refine aw_iconst (v := 1) C dL_law_235 (by decide) ?_
  refine aw_iadd C dL_law_236 ?_
  refine aw_sld Q (law_ix (q := 1) hj (by decide) hL) dL_law_237 ?_
  refine aw_aload_n C dL_law_238 rfl (j := 0) rfl ?_
  refine aw_iload_n C dL_law_239 rfl (j := 3) rfl ?_
  refine aw_iconst (v := 2) C dL_law_240 (by decide) ?_
  refine aw_iadd C dL_law_241 ?_
  refine aw_sld Q (law_ix (q := 2) hj (by decide) hL) dL_law_242 ?_
  refine aw_aload_n C dL_law_243 rfl (j := 0) rfl ?_
  refine aw_iload_n C dL_law_244 rfl (j := 3) rfl ?_
  refine aw_iconst (v := 3) C dL_law_245 (by decide) ?_
  refine aw_iadd C dL_law_246 ?_
  refine aw_sld Q (law_ix (q := 3) hj (by decide) hL) dL_law_247 ?_
  refine aw_callV (ci := 5) C mb_L_31 ⟨q_363, q_364, rfl⟩ hO (cX5_wheel_ _ _ _ _ e1) dL_law_248 rfl (rest := []) rfl (cat_le _ (Nat.le_of_ble_eq_true rfl)) (by decide) (by omega) (by omega) (st2 := [.int r]) rfl ?_
  refine aw_aload_n C dL_law_251 rfl (j := 2) rfl ?_
  refine aw_aload_n C dL_law_252 rfl (j := 0) rfl ?_
  refine aw_iload_n C dL_law_253 rfl (j := 3) rfl ?_
  refine aw_iconst (v := 1) C dL_law_254 (by decide) ?_
  refine aw_iadd C dL_law_255 ?_
  refine aw_sld Q (law_ix (q := 1) hj (by decide) hL) dL_law_256 ?_
  refine aw_aload_n C dL_law_257 rfl (j := 0) rfl ?_
  refine aw_iload_n C dL_law_258 rfl (j := 3) rfl ?_
  refine aw_iconst (v := 2) C dL_law_259 (by decide) ?_
  refine aw_iadd C dL_law_260 ?_
  refine aw_sld Q (law_ix (q := 2) hj (by decide) hL) dL_law_261 ?_
  refine aw_aload_n C dL_law_262 rfl (j := 0) rfl ?_
  refine aw_iload_n C dL_law_263 rfl (j := 3) rfl ?_
  refine aw_iconst (v := 3) C dL_law_264 (by decide) ?_
  refine aw_iadd C dL_law_265 ?_
  refine aw_sld Q (law_ix (q := 3) hj (by decide) hL) dL_law_266 ?_
  refine aw_callV (ci := 6) C mb_L_35 ⟨q_925, q_926, rfl⟩ hO1 (cX6_wheel_ _ _ _ _ e2) dL_law_267 rfl (rest := [.int r]) rfl (cat_le _ (Nat.le_of_ble_eq_true rfl)) (by decide) (by omega) (by omega) (st2 := [.int r, .int r]) rfl ?_
  refine aw_ic_eq (tgt := 965) C dL_law_270 (by decide) (fun hc => ?_) (fun hc => absurd rfl hc)
  exact aw_wide (by omega) (by omega) (next _ _ hI2)
def St_pen (I : Hp → Nat → Prop) (x m N : Nat) : Prop := ∀ (h : Hp) (sz : Nat) (a1 : Int32) (a2 : Int32), I h sz → ∃ (r : Int32) (h1 : Hp) (sz1 : Nat) (h2 : Hp), (fX5_pen N h (some x) a1 a2 = some (r, h1) ∧ sz1 = sz) ∧ isO h1 (some m) 6 = true ∧ (fX6_pen N h1 (some m) a1 a2 = some r ∧ h2 = h1) ∧ I h2 sz1
set_option maxHeartbeats 4000000 in
set_option maxRecDepth 100000 in
theorem law_pen {Γ : GG} {b L : Nat} {xs : Nat → Int32} (Q : LC Γ b L xs) {I : Hp → Nat → Prop} {x m N : Nat} (S : St_pen I x m N) {h : Hp} {sz k n j : Nat} (hI : I h sz) (hO : isO h (some x) 5 = true) (hj : j + 6 ≤ L) (hk : k + 7 ≤ 717199) (hn : n + 46 ≤ 6950652) (next : ∀ (h : Hp) (sz : Nat), I h sz → AW Γ 4 h sz (k + 7) (n + 46) 965 (lawv b x m j) []) : AW Γ 4 h sz k n 275 (lawv b x m j) [] := by
  have C := Q.1
  have hL := Q.2.2.2.2
  obtain ⟨r, h1, sz1, h2, e1, hO1, e2, hI2⟩ := S h sz (xs (nI j + (1 : Int32)).toNatClampNeg) (xs (nI j + (2 : Int32)).toNatClampNeg) hI
  obtain ⟨e1, rfl⟩ := e1
  obtain ⟨e2, rfl⟩ := e2
  refine aw_aload_n C dL_law_275 rfl (j := 1) rfl ?_
  refine aw_aload_n C dL_law_276 rfl (j := 0) rfl ?_
  refine aw_iload_n C dL_law_277 rfl (j := 3) rfl ?_
  refine aw_iconst (v := 1) C dL_law_278 (by decide) ?_
  refine aw_iadd C dL_law_279 ?_
  refine aw_sld Q (law_ix (q := 1) hj (by decide) hL) dL_law_280 ?_
  refine aw_aload_n C dL_law_281 rfl (j := 0) rfl ?_
  refine aw_iload_n C dL_law_282 rfl (j := 3) rfl ?_
  refine aw_iconst (v := 2) C dL_law_283 (by decide) ?_
  refine aw_iadd C dL_law_284 ?_
  refine aw_sld Q (law_ix (q := 2) hj (by decide) hL) dL_law_285 ?_
  refine aw_callV (ci := 5) C mb_L_36 ⟨q_405, q_406, rfl⟩ hO (cX5_pen_ _ _ _ _ e1) dL_law_286 rfl (rest := []) rfl (cat_le _ (Nat.le_of_ble_eq_true rfl)) (by decide) (by omega) (by omega) (st2 := [.int r]) rfl ?_
  refine aw_aload_n C dL_law_289 rfl (j := 2) rfl ?_
  refine aw_aload_n C dL_law_290 rfl (j := 0) rfl ?_
  refine aw_iload_n C dL_law_291 rfl (j := 3) rfl ?_
  refine aw_iconst (v := 1) C dL_law_292 (by decide) ?_
  refine aw_iadd C dL_law_293 ?_
  refine aw_sld Q (law_ix (q := 1) hj (by decide) hL) dL_law_294 ?_
  refine aw_aload_n C dL_law_295 rfl (j := 0) rfl ?_
  refine aw_iload_n C dL_law_296 rfl (j := 3) rfl ?_
  refine aw_iconst (v := 2) C dL_law_297 (by decide) ?_
  refine aw_iadd C dL_law_298 ?_
  refine aw_sld Q (law_ix (q := 2) hj (by decide) hL) dL_law_299 ?_
  refine aw_callV (ci := 6) C mb_L_40 ⟨q_956, q_957, rfl⟩ hO1 (cX6_pen_ _ _ _ _ e2) dL_law_300 rfl (rest := [.int r]) rfl (cat_le _ (Nat.le_of_ble_eq_true rfl)) (by decide) (by omega) (by omega) (st2 := [.int r, .int r]) rfl ?_
  refine aw_ic_eq (tgt := 965) C dL_law_303 (by decide) (fun hc => ?_) (fun hc => absurd rfl hc)
  exact aw_wide (by omega) (by omega) (next _ _ hI2)
def St_curve (I : Hp → Nat → Prop) (x m N : Nat) : Prop := ∀ (h : Hp) (sz : Nat) (a1 : Int32) (a2 : Int32), I h sz → ∃ (r : Int32) (h1 : Hp) (sz1 : Nat) (h2 : Hp), (fX5_curve N h (some x) a1 a2 = some (r, h1) ∧ sz1 = sz) ∧ isO h1 (some m) 6 = true ∧ (fX6_curve N h1 (some m) a1 a2 = some r ∧ h2 = h1) ∧ I h2 sz1
set_option maxHeartbeats 4000000 in
set_option maxRecDepth 100000 in
theorem law_curve {Γ : GG} {b L : Nat} {xs : Nat → Int32} (Q : LC Γ b L xs) {I : Hp → Nat → Prop} {x m N : Nat} (S : St_curve I x m N) {h : Hp} {sz k n j : Nat} (hI : I h sz) (hO : isO h (some x) 5 = true) (hj : j + 6 ≤ L) (hk : k + 7 ≤ 717199) (hn : n + 46 ≤ 6950652) (next : ∀ (h : Hp) (sz : Nat), I h sz → AW Γ 4 h sz (k + 7) (n + 46) 965 (lawv b x m j) []) : AW Γ 4 h sz k n 308 (lawv b x m j) [] := by
  have C := Q.1
  have hL := Q.2.2.2.2
  obtain ⟨r, h1, sz1, h2, e1, hO1, e2, hI2⟩ := S h sz (xs (nI j + (1 : Int32)).toNatClampNeg) (xs (nI j + (2 : Int32)).toNatClampNeg) hI
  obtain ⟨e1, rfl⟩ := e1
  obtain ⟨e2, rfl⟩ := e2
  refine aw_aload_n C dL_law_308 rfl (j := 1) rfl ?_
  refine aw_aload_n C dL_law_309 rfl (j := 0) rfl ?_
  refine aw_iload_n C dL_law_310 rfl (j := 3) rfl ?_
  refine aw_iconst (v := 1) C dL_law_311 (by decide) ?_
  refine aw_iadd C dL_law_312 ?_
  refine aw_sld Q (law_ix (q := 1) hj (by decide) hL) dL_law_313 ?_
  refine aw_aload_n C dL_law_314 rfl (j := 0) rfl ?_
  refine aw_iload_n C dL_law_315 rfl (j := 3) rfl ?_
  refine aw_iconst (v := 2) C dL_law_316 (by decide) ?_
  refine aw_iadd C dL_law_317 ?_
  refine aw_sld Q (law_ix (q := 2) hj (by decide) hL) dL_law_318 ?_
  refine aw_callV (ci := 5) C mb_L_41 ⟨q_450, q_451, rfl⟩ hO (cX5_curve_ _ _ _ _ e1) dL_law_319 rfl (rest := []) rfl (cat_le _ (Nat.le_of_ble_eq_true rfl)) (by decide) (by omega) (by omega) (st2 := [.int r]) rfl ?_
  refine aw_aload_n C dL_law_322 rfl (j := 2) rfl ?_
  refine aw_aload_n C dL_law_323 rfl (j := 0) rfl ?_
  refine aw_iload_n C dL_law_324 rfl (j := 3) rfl ?_
  refine aw_iconst (v := 1) C dL_law_325 (by decide) ?_
  refine aw_iadd C dL_law_326 ?_
  refine aw_sld Q (law_ix (q := 1) hj (by decide) hL) dL_law_327 ?_
  refine aw_aload_n C dL_law_328 rfl (j := 0) rfl ?_
  refine aw_iload_n C dL_law_329 rfl (j := 3) rfl ?_
  refine aw_iconst (v := 2) C dL_law_330 (by decide) ?_
  refine aw_iadd C dL_law_331 ?_
  refine aw_sld Q (law_ix (q := 2) hj (by decide) hL) dL_law_332 ?_
  refine aw_callV (ci := 6) C mb_L_44 ⟨q_987, q_988, rfl⟩ hO1 (cX6_curve_ _ _ _ _ e2) dL_law_333 rfl (rest := [.int r]) rfl (cat_le _ (Nat.le_of_ble_eq_true rfl)) (by decide) (by omega) (by omega) (st2 := [.int r, .int r]) rfl ?_
  refine aw_ic_eq (tgt := 965) C dL_law_336 (by decide) (fun hc => ?_) (fun hc => absurd rfl hc)
  exact aw_wide (by omega) (by omega) (next _ _ hI2)
def St_draws (I : Hp → Nat → Prop) (x m N : Nat) : Prop := ∀ (h : Hp) (sz : Nat) (a1 : Int32) (a2 : Int32) (a3 : Int32) (a4 : Int32) (a5 : Int32), I h sz → ∃ (r : Int32) (h1 : Hp) (sz1 : Nat) (h2 : Hp), (fX5_draws N h sz (some x) a1 a2 a3 a4 a5 = some (r, h1, sz1)) ∧ isO h1 (some m) 6 = true ∧ (fX6_draws N h1 (some m) a1 a2 a3 a4 a5 = some (r, h2)) ∧ I h2 sz1
set_option maxHeartbeats 4000000 in
set_option maxRecDepth 100000 in
theorem law_draws {Γ : GG} {b L : Nat} {xs : Nat → Int32} (Q : LC Γ b L xs) {I : Hp → Nat → Prop} {x m N : Nat} (S : St_draws I x m N) {h : Hp} {sz k n j : Nat} (hI : I h sz) (hO : isO h (some x) 5 = true) (hj : j + 6 ≤ L) (hk : k + 7 ≤ 717199) (hn : n + 46 ≤ 6950652) (next : ∀ (h : Hp) (sz : Nat), I h sz → AW Γ 4 h sz (k + 7) (n + 46) 965 (lawv b x m j) []) : AW Γ 4 h sz k n 341 (lawv b x m j) [] := by
  have C := Q.1
  have hL := Q.2.2.2.2
  obtain ⟨r, h1, sz1, h2, e1, hO1, e2, hI2⟩ := S h sz (xs (nI j + (1 : Int32)).toNatClampNeg) (xs (nI j + (2 : Int32)).toNatClampNeg) (xs (nI j + (3 : Int32)).toNatClampNeg) (xs (nI j + (4 : Int32)).toNatClampNeg) (xs (nI j + (5 : Int32)).toNatClampNeg) hI
  refine aw_aload_n C dL_law_341 rfl (j := 1) rfl ?_
  refine aw_aload_n C dL_law_342 rfl (j := 0) rfl ?_
  refine aw_iload_n C dL_law_343 rfl (j := 3) rfl ?_
  refine aw_iconst (v := 1) C dL_law_344 (by decide) ?_
  refine aw_iadd C dL_law_345 ?_
  refine aw_sld Q (law_ix (q := 1) hj (by decide) hL) dL_law_346 ?_
  refine aw_aload_n C dL_law_347 rfl (j := 0) rfl ?_
  refine aw_iload_n C dL_law_348 rfl (j := 3) rfl ?_
  refine aw_iconst (v := 2) C dL_law_349 (by decide) ?_
  refine aw_iadd C dL_law_350 ?_
  refine aw_sld Q (law_ix (q := 2) hj (by decide) hL) dL_law_351 ?_
  refine aw_aload_n C dL_law_352 rfl (j := 0) rfl ?_
  refine aw_iload_n C dL_law_353 rfl (j := 3) rfl ?_
  refine aw_iconst (v := 3) C dL_law_354 (by decide) ?_
  refine aw_iadd C dL_law_355 ?_
  refine aw_sld Q (law_ix (q := 3) hj (by decide) hL) dL_law_356 ?_
  refine aw_aload_n C dL_law_357 rfl (j := 0) rfl ?_
  refine aw_iload_n C dL_law_358 rfl (j := 3) rfl ?_
  refine aw_iconst (v := 4) C dL_law_359 (by decide) ?_
  refine aw_iadd C dL_law_360 ?_
  refine aw_sld Q (law_ix (q := 4) hj (by decide) hL) dL_law_361 ?_
  refine aw_aload_n C dL_law_362 rfl (j := 0) rfl ?_
  refine aw_iload_n C dL_law_363 rfl (j := 3) rfl ?_
  refine aw_iconst (v := 5) C dL_law_364 (by decide) ?_
  refine aw_iadd C dL_law_365 ?_
  refine aw_sld Q (law_ix (q := 5) hj (by decide) hL) dL_law_366 ?_
  refine aw_callV (ci := 5) C mb_L_45 ⟨q_458, q_459, rfl⟩ hO (cX5_draws_ _ _ _ _ e1) dL_law_367 rfl (rest := []) rfl (cat_le _ (Nat.le_of_ble_eq_true rfl)) (by decide) (by omega) (by omega) (st2 := [.int r]) rfl ?_
  refine aw_aload_n C dL_law_370 rfl (j := 2) rfl ?_
  refine aw_aload_n C dL_law_371 rfl (j := 0) rfl ?_
  refine aw_iload_n C dL_law_372 rfl (j := 3) rfl ?_
  refine aw_iconst (v := 1) C dL_law_373 (by decide) ?_
  refine aw_iadd C dL_law_374 ?_
  refine aw_sld Q (law_ix (q := 1) hj (by decide) hL) dL_law_375 ?_
  refine aw_aload_n C dL_law_376 rfl (j := 0) rfl ?_
  refine aw_iload_n C dL_law_377 rfl (j := 3) rfl ?_
  refine aw_iconst (v := 2) C dL_law_378 (by decide) ?_
  refine aw_iadd C dL_law_379 ?_
  refine aw_sld Q (law_ix (q := 2) hj (by decide) hL) dL_law_380 ?_
  refine aw_aload_n C dL_law_381 rfl (j := 0) rfl ?_
  refine aw_iload_n C dL_law_382 rfl (j := 3) rfl ?_
  refine aw_iconst (v := 3) C dL_law_383 (by decide) ?_
  refine aw_iadd C dL_law_384 ?_
  refine aw_sld Q (law_ix (q := 3) hj (by decide) hL) dL_law_385 ?_
  refine aw_aload_n C dL_law_386 rfl (j := 0) rfl ?_
  refine aw_iload_n C dL_law_387 rfl (j := 3) rfl ?_
  refine aw_iconst (v := 4) C dL_law_388 (by decide) ?_
  refine aw_iadd C dL_law_389 ?_
  refine aw_sld Q (law_ix (q := 4) hj (by decide) hL) dL_law_390 ?_
  refine aw_aload_n C dL_law_391 rfl (j := 0) rfl ?_
  refine aw_iload_n C dL_law_392 rfl (j := 3) rfl ?_
  refine aw_iconst (v := 5) C dL_law_393 (by decide) ?_
  refine aw_iadd C dL_law_394 ?_
  refine aw_sld Q (law_ix (q := 5) hj (by decide) hL) dL_law_395 ?_
  refine aw_callV (ci := 6) C mb_L_49 ⟨q_999, q_1000, rfl⟩ hO1 (cX6_draws_ _ _ _ _ e2) dL_law_396 rfl (rest := [.int r]) rfl (cat_le _ (Nat.le_of_ble_eq_true rfl)) (by decide) (by omega) (by omega) (st2 := [.int r, .int r]) rfl ?_
  refine aw_ic_eq (tgt := 965) C dL_law_399 (by decide) (fun hc => ?_) (fun hc => absurd rfl hc)
  exact aw_wide (by omega) (by omega) (next _ _ hI2)
def St_rubs (I : Hp → Nat → Prop) (x m N : Nat) : Prop := ∀ (h : Hp) (sz : Nat) (a1 : Int32), I h sz → ∃ (r : Int32) (h1 : Hp) (sz1 : Nat) (h2 : Hp), (fX5_rubs N h sz (some x) a1 = some (r, h1, sz1)) ∧ isO h1 (some m) 6 = true ∧ (fX6_rubs N h1 (some m) a1 = some (r, h2)) ∧ I h2 sz1
set_option maxHeartbeats 4000000 in
set_option maxRecDepth 100000 in
theorem law_rubs {Γ : GG} {b L : Nat} {xs : Nat → Int32} (Q : LC Γ b L xs) {I : Hp → Nat → Prop} {x m N : Nat} (S : St_rubs I x m N) {h : Hp} {sz k n j : Nat} (hI : I h sz) (hO : isO h (some x) 5 = true) (hj : j + 6 ≤ L) (hk : k + 7 ≤ 717199) (hn : n + 46 ≤ 6950652) (next : ∀ (h : Hp) (sz : Nat), I h sz → AW Γ 4 h sz (k + 7) (n + 46) 965 (lawv b x m j) []) : AW Γ 4 h sz k n 404 (lawv b x m j) [] := by
  have C := Q.1
  have hL := Q.2.2.2.2
  obtain ⟨r, h1, sz1, h2, e1, hO1, e2, hI2⟩ := S h sz (xs (nI j + (1 : Int32)).toNatClampNeg) hI
  refine aw_aload_n C dL_law_404 rfl (j := 1) rfl ?_
  refine aw_aload_n C dL_law_405 rfl (j := 0) rfl ?_
  refine aw_iload_n C dL_law_406 rfl (j := 3) rfl ?_
  refine aw_iconst (v := 1) C dL_law_407 (by decide) ?_
  refine aw_iadd C dL_law_408 ?_
  refine aw_sld Q (law_ix (q := 1) hj (by decide) hL) dL_law_409 ?_
  refine aw_callV (ci := 5) C mb_L_50 ⟨q_541, q_542, rfl⟩ hO (cX5_rubs_ _ _ _ _ e1) dL_law_410 rfl (rest := []) rfl (cat_le _ (Nat.le_of_ble_eq_true rfl)) (by decide) (by omega) (by omega) (st2 := [.int r]) rfl ?_
  refine aw_aload_n C dL_law_413 rfl (j := 2) rfl ?_
  refine aw_aload_n C dL_law_414 rfl (j := 0) rfl ?_
  refine aw_iload_n C dL_law_415 rfl (j := 3) rfl ?_
  refine aw_iconst (v := 1) C dL_law_416 (by decide) ?_
  refine aw_iadd C dL_law_417 ?_
  refine aw_sld Q (law_ix (q := 1) hj (by decide) hL) dL_law_418 ?_
  refine aw_callV (ci := 6) C mb_L_53 ⟨q_1011, q_1012, rfl⟩ hO1 (cX6_rubs_ _ _ _ _ e2) dL_law_419 rfl (rest := [.int r]) rfl (cat_le _ (Nat.le_of_ble_eq_true rfl)) (by decide) (by omega) (by omega) (st2 := [.int r, .int r]) rfl ?_
  refine aw_ic_eq (tgt := 965) C dL_law_422 (by decide) (fun hc => ?_) (fun hc => absurd rfl hc)
  exact aw_wide (by omega) (by omega) (next _ _ hI2)
def St_spins (I : Hp → Nat → Prop) (x m N : Nat) : Prop := ∀ (h : Hp) (sz : Nat) (a1 : Int32), I h sz → ∃ (r : Int32) (h1 : Hp) (sz1 : Nat) (h2 : Hp), (fX5_spins N h sz (some x) a1 = some (r, h1, sz1)) ∧ isO h1 (some m) 6 = true ∧ (fX6_spins N h1 (some m) a1 = some (r, h2)) ∧ I h2 sz1
set_option maxHeartbeats 4000000 in
set_option maxRecDepth 100000 in
theorem law_spins {Γ : GG} {b L : Nat} {xs : Nat → Int32} (Q : LC Γ b L xs) {I : Hp → Nat → Prop} {x m N : Nat} (S : St_spins I x m N) {h : Hp} {sz k n j : Nat} (hI : I h sz) (hO : isO h (some x) 5 = true) (hj : j + 6 ≤ L) (hk : k + 7 ≤ 717199) (hn : n + 46 ≤ 6950652) (next : ∀ (h : Hp) (sz : Nat), I h sz → AW Γ 4 h sz (k + 7) (n + 46) 965 (lawv b x m j) []) : AW Γ 4 h sz k n 427 (lawv b x m j) [] := by
  have C := Q.1
  have hL := Q.2.2.2.2
  obtain ⟨r, h1, sz1, h2, e1, hO1, e2, hI2⟩ := S h sz (xs (nI j + (1 : Int32)).toNatClampNeg) hI
  refine aw_aload_n C dL_law_427 rfl (j := 1) rfl ?_
  refine aw_aload_n C dL_law_428 rfl (j := 0) rfl ?_
  refine aw_iload_n C dL_law_429 rfl (j := 3) rfl ?_
  refine aw_iconst (v := 1) C dL_law_430 (by decide) ?_
  refine aw_iadd C dL_law_431 ?_
  refine aw_sld Q (law_ix (q := 1) hj (by decide) hL) dL_law_432 ?_
  refine aw_callV (ci := 5) C mb_L_54 ⟨q_552, q_553, rfl⟩ hO (cX5_spins_ _ _ _ _ e1) dL_law_433 rfl (rest := []) rfl (cat_le _ (Nat.le_of_ble_eq_true rfl)) (by decide) (by omega) (by omega) (st2 := [.int r]) rfl ?_
  refine aw_aload_n C dL_law_436 rfl (j := 2) rfl ?_
  refine aw_aload_n C dL_law_437 rfl (j := 0) rfl ?_
  refine aw_iload_n C dL_law_438 rfl (j := 3) rfl ?_
  refine aw_iconst (v := 1) C dL_law_439 (by decide) ?_
  refine aw_iadd C dL_law_440 ?_
  refine aw_sld Q (law_ix (q := 1) hj (by decide) hL) dL_law_441 ?_
  refine aw_callV (ci := 6) C mb_L_57 ⟨q_1015, q_1016, rfl⟩ hO1 (cX6_spins_ _ _ _ _ e2) dL_law_442 rfl (rest := [.int r]) rfl (cat_le _ (Nat.le_of_ble_eq_true rfl)) (by decide) (by omega) (by omega) (st2 := [.int r, .int r]) rfl ?_
  refine aw_ic_eq (tgt := 965) C dL_law_445 (by decide) (fun hc => ?_) (fun hc => absurd rfl hc)
  exact aw_wide (by omega) (by omega) (next _ _ hI2)
def St_fills (I : Hp → Nat → Prop) (x m N : Nat) : Prop := ∀ (h : Hp) (sz : Nat) (a1 : Int32) (a2 : Int32), I h sz → ∃ (r : Int32) (h1 : Hp) (sz1 : Nat) (h2 : Hp), (fX5_fills N h sz (some x) a1 a2 = some (r, h1, sz1)) ∧ isO h1 (some m) 6 = true ∧ (fX6_fills N h1 (some m) a1 a2 = some (r, h2)) ∧ I h2 sz1
set_option maxHeartbeats 4000000 in
set_option maxRecDepth 100000 in
theorem law_fills {Γ : GG} {b L : Nat} {xs : Nat → Int32} (Q : LC Γ b L xs) {I : Hp → Nat → Prop} {x m N : Nat} (S : St_fills I x m N) {h : Hp} {sz k n j : Nat} (hI : I h sz) (hO : isO h (some x) 5 = true) (hj : j + 6 ≤ L) (hk : k + 7 ≤ 717199) (hn : n + 46 ≤ 6950652) (next : ∀ (h : Hp) (sz : Nat), I h sz → AW Γ 4 h sz (k + 7) (n + 46) 965 (lawv b x m j) []) : AW Γ 4 h sz k n 450 (lawv b x m j) [] := by
  have C := Q.1
  have hL := Q.2.2.2.2
  obtain ⟨r, h1, sz1, h2, e1, hO1, e2, hI2⟩ := S h sz (xs (nI j + (1 : Int32)).toNatClampNeg) (xs (nI j + (2 : Int32)).toNatClampNeg) hI
  refine aw_aload_n C dL_law_450 rfl (j := 1) rfl ?_
  refine aw_aload_n C dL_law_451 rfl (j := 0) rfl ?_
  refine aw_iload_n C dL_law_452 rfl (j := 3) rfl ?_
  refine aw_iconst (v := 1) C dL_law_453 (by decide) ?_
  refine aw_iadd C dL_law_454 ?_
  refine aw_sld Q (law_ix (q := 1) hj (by decide) hL) dL_law_455 ?_
  refine aw_aload_n C dL_law_456 rfl (j := 0) rfl ?_
  refine aw_iload_n C dL_law_457 rfl (j := 3) rfl ?_
  refine aw_iconst (v := 2) C dL_law_458 (by decide) ?_
  refine aw_iadd C dL_law_459 ?_
  refine aw_sld Q (law_ix (q := 2) hj (by decide) hL) dL_law_460 ?_
  refine aw_callV (ci := 5) C mb_L_58 ⟨q_561, q_562, rfl⟩ hO (cX5_fills_ _ _ _ _ e1) dL_law_461 rfl (rest := []) rfl (cat_le _ (Nat.le_of_ble_eq_true rfl)) (by decide) (by omega) (by omega) (st2 := [.int r]) rfl ?_
  refine aw_aload_n C dL_law_464 rfl (j := 2) rfl ?_
  refine aw_aload_n C dL_law_465 rfl (j := 0) rfl ?_
  refine aw_iload_n C dL_law_466 rfl (j := 3) rfl ?_
  refine aw_iconst (v := 1) C dL_law_467 (by decide) ?_
  refine aw_iadd C dL_law_468 ?_
  refine aw_sld Q (law_ix (q := 1) hj (by decide) hL) dL_law_469 ?_
  refine aw_aload_n C dL_law_470 rfl (j := 0) rfl ?_
  refine aw_iload_n C dL_law_471 rfl (j := 3) rfl ?_
  refine aw_iconst (v := 2) C dL_law_472 (by decide) ?_
  refine aw_iadd C dL_law_473 ?_
  refine aw_sld Q (law_ix (q := 2) hj (by decide) hL) dL_law_474 ?_
  refine aw_callV (ci := 6) C mb_L_61 ⟨q_1019, q_1020, rfl⟩ hO1 (cX6_fills_ _ _ _ _ e2) dL_law_475 rfl (rest := [.int r]) rfl (cat_le _ (Nat.le_of_ble_eq_true rfl)) (by decide) (by omega) (by omega) (st2 := [.int r, .int r]) rfl ?_
  refine aw_ic_eq (tgt := 965) C dL_law_478 (by decide) (fun hc => ?_) (fun hc => absurd rfl hc)
  exact aw_wide (by omega) (by omega) (next _ _ hI2)
def St_undo (I : Hp → Nat → Prop) (x m N : Nat) : Prop := ∀ (h : Hp) (sz : Nat), I h sz → ∃ (r : Int32) (h1 : Hp) (sz1 : Nat) (h2 : Hp), (fX5_undo N h (some x) = some (r, h1) ∧ sz1 = sz) ∧ isO h1 (some m) 6 = true ∧ (fX6_undo N h1 (some m) = some (r, h2)) ∧ I h2 sz1
set_option maxHeartbeats 4000000 in
set_option maxRecDepth 100000 in
theorem law_undo {Γ : GG} {b L : Nat} {xs : Nat → Int32} (Q : LC Γ b L xs) {I : Hp → Nat → Prop} {x m N : Nat} (S : St_undo I x m N) {h : Hp} {sz k n j : Nat} (hI : I h sz) (hO : isO h (some x) 5 = true) (hj : j + 6 ≤ L) (hk : k + 7 ≤ 717199) (hn : n + 46 ≤ 6950652) (next : ∀ (h : Hp) (sz : Nat), I h sz → AW Γ 4 h sz (k + 7) (n + 46) 965 (lawv b x m j) []) : AW Γ 4 h sz k n 483 (lawv b x m j) [] := by
  have C := Q.1
  have hL := Q.2.2.2.2
  obtain ⟨r, h1, sz1, h2, e1, hO1, e2, hI2⟩ := S h sz  hI
  obtain ⟨e1, rfl⟩ := e1
  refine aw_aload_n C dL_law_483 rfl (j := 1) rfl ?_
  refine aw_callV (ci := 5) C mb_L_62 ⟨q_570, q_571, rfl⟩ hO (cX5_undo_ _ _ _ _ e1) dL_law_484 rfl (rest := []) rfl (cat_le _ (Nat.le_of_ble_eq_true rfl)) (by decide) (by omega) (by omega) (st2 := [.int r]) rfl ?_
  refine aw_aload_n C dL_law_487 rfl (j := 2) rfl ?_
  refine aw_callV (ci := 6) C mb_L_65 ⟨q_1023, q_1024, rfl⟩ hO1 (cX6_undo_ _ _ _ _ e2) dL_law_488 rfl (rest := [.int r]) rfl (cat_le _ (Nat.le_of_ble_eq_true rfl)) (by decide) (by omega) (by omega) (st2 := [.int r, .int r]) rfl ?_
  refine aw_ic_eq (tgt := 965) C dL_law_491 (by decide) (fun hc => ?_) (fun hc => absurd rfl hc)
  exact aw_wide (by omega) (by omega) (next _ _ hI2)
def St_now (I : Hp → Nat → Prop) (x m N : Nat) : Prop := ∀ (h : Hp) (sz : Nat) (a1 : Int32), I h sz → ∃ (r : Int32) (h1 : Hp) (sz1 : Nat) (h2 : Hp), (fX5_now N h (some x) a1 = some (r, h1) ∧ sz1 = sz) ∧ isO h1 (some m) 6 = true ∧ (fX6_now N h1 (some m) a1 = some (r, h2)) ∧ I h2 sz1
set_option maxHeartbeats 4000000 in
set_option maxRecDepth 100000 in
theorem law_now {Γ : GG} {b L : Nat} {xs : Nat → Int32} (Q : LC Γ b L xs) {I : Hp → Nat → Prop} {x m N : Nat} (S : St_now I x m N) {h : Hp} {sz k n j : Nat} (hI : I h sz) (hO : isO h (some x) 5 = true) (hj : j + 6 ≤ L) (hk : k + 7 ≤ 717199) (hn : n + 46 ≤ 6950652) (next : ∀ (h : Hp) (sz : Nat), I h sz → AW Γ 4 h sz (k + 7) (n + 46) 965 (lawv b x m j) []) : AW Γ 4 h sz k n 496 (lawv b x m j) [] := by
  have C := Q.1
  have hL := Q.2.2.2.2
  obtain ⟨r, h1, sz1, h2, e1, hO1, e2, hI2⟩ := S h sz (xs (nI j + (1 : Int32)).toNatClampNeg) hI
  obtain ⟨e1, rfl⟩ := e1
  refine aw_aload_n C dL_law_496 rfl (j := 1) rfl ?_
  refine aw_aload_n C dL_law_497 rfl (j := 0) rfl ?_
  refine aw_iload_n C dL_law_498 rfl (j := 3) rfl ?_
  refine aw_iconst (v := 1) C dL_law_499 (by decide) ?_
  refine aw_iadd C dL_law_500 ?_
  refine aw_sld Q (law_ix (q := 1) hj (by decide) hL) dL_law_501 ?_
  refine aw_callV (ci := 5) C mb_L_66 ⟨q_578, q_579, rfl⟩ hO (cX5_now_ _ _ _ _ e1) dL_law_502 rfl (rest := []) rfl (cat_le _ (Nat.le_of_ble_eq_true rfl)) (by decide) (by omega) (by omega) (st2 := [.int r]) rfl ?_
  refine aw_aload_n C dL_law_505 rfl (j := 2) rfl ?_
  refine aw_aload_n C dL_law_506 rfl (j := 0) rfl ?_
  refine aw_iload_n C dL_law_507 rfl (j := 3) rfl ?_
  refine aw_iconst (v := 1) C dL_law_508 (by decide) ?_
  refine aw_iadd C dL_law_509 ?_
  refine aw_sld Q (law_ix (q := 1) hj (by decide) hL) dL_law_510 ?_
  refine aw_callV (ci := 6) C mb_L_69 ⟨q_1031, q_1032, rfl⟩ hO1 (cX6_now_ _ _ _ _ e2) dL_law_511 rfl (rest := [.int r]) rfl (cat_le _ (Nat.le_of_ble_eq_true rfl)) (by decide) (by omega) (by omega) (st2 := [.int r, .int r]) rfl ?_
  refine aw_ic_eq (tgt := 965) C dL_law_514 (by decide) (fun hc => ?_) (fun hc => absurd rfl hc)
  exact aw_wide (by omega) (by omega) (next _ _ hI2)
def St_shown (I : Hp → Nat → Prop) (x m N : Nat) : Prop := ∀ (h : Hp) (sz : Nat) (a1 : Int32) (a2 : Int32), I h sz → ∃ (r : Int32) (h1 : Hp) (sz1 : Nat) (h2 : Hp), (fX5_shown N h (some x) a1 a2 = some r ∧ h1 = h ∧ sz1 = sz) ∧ isO h1 (some m) 6 = true ∧ (fX6_shown N h1 (some m) a1 a2 = some r ∧ h2 = h1) ∧ I h2 sz1
set_option maxHeartbeats 4000000 in
set_option maxRecDepth 100000 in
theorem law_shown {Γ : GG} {b L : Nat} {xs : Nat → Int32} (Q : LC Γ b L xs) {I : Hp → Nat → Prop} {x m N : Nat} (S : St_shown I x m N) {h : Hp} {sz k n j : Nat} (hI : I h sz) (hO : isO h (some x) 5 = true) (hj : j + 6 ≤ L) (hk : k + 7 ≤ 717199) (hn : n + 46 ≤ 6950652) (next : ∀ (h : Hp) (sz : Nat), I h sz → AW Γ 4 h sz (k + 7) (n + 46) 965 (lawv b x m j) []) : AW Γ 4 h sz k n 519 (lawv b x m j) [] := by
  have C := Q.1
  have hL := Q.2.2.2.2
  obtain ⟨r, h1, sz1, h2, e1, hO1, e2, hI2⟩ := S h sz (xs (nI j + (1 : Int32)).toNatClampNeg) (xs (nI j + (2 : Int32)).toNatClampNeg) hI
  obtain ⟨e1, rfl, rfl⟩ := e1
  obtain ⟨e2, rfl⟩ := e2
  refine aw_aload_n C dL_law_519 rfl (j := 1) rfl ?_
  refine aw_aload_n C dL_law_520 rfl (j := 0) rfl ?_
  refine aw_iload_n C dL_law_521 rfl (j := 3) rfl ?_
  refine aw_iconst (v := 1) C dL_law_522 (by decide) ?_
  refine aw_iadd C dL_law_523 ?_
  refine aw_sld Q (law_ix (q := 1) hj (by decide) hL) dL_law_524 ?_
  refine aw_aload_n C dL_law_525 rfl (j := 0) rfl ?_
  refine aw_iload_n C dL_law_526 rfl (j := 3) rfl ?_
  refine aw_iconst (v := 2) C dL_law_527 (by decide) ?_
  refine aw_iadd C dL_law_528 ?_
  refine aw_sld Q (law_ix (q := 2) hj (by decide) hL) dL_law_529 ?_
  refine aw_callV (ci := 5) C mb_L_70 ⟨q_600, q_601, rfl⟩ hO (cX5_shown_ _ _ _ _ e1) dL_law_530 rfl (rest := []) rfl (cat_le _ (Nat.le_of_ble_eq_true rfl)) (by decide) (by omega) (by omega) (st2 := [.int r]) rfl ?_
  refine aw_aload_n C dL_law_533 rfl (j := 2) rfl ?_
  refine aw_aload_n C dL_law_534 rfl (j := 0) rfl ?_
  refine aw_iload_n C dL_law_535 rfl (j := 3) rfl ?_
  refine aw_iconst (v := 1) C dL_law_536 (by decide) ?_
  refine aw_iadd C dL_law_537 ?_
  refine aw_sld Q (law_ix (q := 1) hj (by decide) hL) dL_law_538 ?_
  refine aw_aload_n C dL_law_539 rfl (j := 0) rfl ?_
  refine aw_iload_n C dL_law_540 rfl (j := 3) rfl ?_
  refine aw_iconst (v := 2) C dL_law_541 (by decide) ?_
  refine aw_iadd C dL_law_542 ?_
  refine aw_sld Q (law_ix (q := 2) hj (by decide) hL) dL_law_543 ?_
  refine aw_callV (ci := 6) C mb_L_73 ⟨q_1047, q_1048, rfl⟩ hO1 (cX6_shown_ _ _ _ _ e2) dL_law_544 rfl (rest := [.int r]) rfl (cat_le _ (Nat.le_of_ble_eq_true rfl)) (by decide) (by omega) (by omega) (st2 := [.int r, .int r]) rfl ?_
  refine aw_ic_eq (tgt := 965) C dL_law_547 (by decide) (fun hc => ?_) (fun hc => absurd rfl hc)
  exact aw_wide (by omega) (by omega) (next _ _ hI2)
def St_petals (I : Hp → Nat → Prop) (x m N : Nat) : Prop := ∀ (h : Hp) (sz : Nat) (a1 : Int32) (a2 : Int32), I h sz → ∃ (r : Int32) (h1 : Hp) (sz1 : Nat) (h2 : Hp), (fX5_petals N h (some x) a1 a2 = some r ∧ h1 = h ∧ sz1 = sz) ∧ isO h1 (some m) 6 = true ∧ (fX6_petals N h1 (some m) a1 a2 = some r ∧ h2 = h1) ∧ I h2 sz1
set_option maxHeartbeats 4000000 in
set_option maxRecDepth 100000 in
theorem law_petals {Γ : GG} {b L : Nat} {xs : Nat → Int32} (Q : LC Γ b L xs) {I : Hp → Nat → Prop} {x m N : Nat} (S : St_petals I x m N) {h : Hp} {sz k n j : Nat} (hI : I h sz) (hO : isO h (some x) 5 = true) (hj : j + 6 ≤ L) (hk : k + 7 ≤ 717199) (hn : n + 46 ≤ 6950652) (next : ∀ (h : Hp) (sz : Nat), I h sz → AW Γ 4 h sz (k + 7) (n + 46) 965 (lawv b x m j) []) : AW Γ 4 h sz k n 552 (lawv b x m j) [] := by
  have C := Q.1
  have hL := Q.2.2.2.2
  obtain ⟨r, h1, sz1, h2, e1, hO1, e2, hI2⟩ := S h sz (xs (nI j + (1 : Int32)).toNatClampNeg) (xs (nI j + (2 : Int32)).toNatClampNeg) hI
  obtain ⟨e1, rfl, rfl⟩ := e1
  obtain ⟨e2, rfl⟩ := e2
  refine aw_aload_n C dL_law_552 rfl (j := 1) rfl ?_
  refine aw_aload_n C dL_law_553 rfl (j := 0) rfl ?_
  refine aw_iload_n C dL_law_554 rfl (j := 3) rfl ?_
  refine aw_iconst (v := 1) C dL_law_555 (by decide) ?_
  refine aw_iadd C dL_law_556 ?_
  refine aw_sld Q (law_ix (q := 1) hj (by decide) hL) dL_law_557 ?_
  refine aw_aload_n C dL_law_558 rfl (j := 0) rfl ?_
  refine aw_iload_n C dL_law_559 rfl (j := 3) rfl ?_
  refine aw_iconst (v := 2) C dL_law_560 (by decide) ?_
  refine aw_iadd C dL_law_561 ?_
  refine aw_sld Q (law_ix (q := 2) hj (by decide) hL) dL_law_562 ?_
  refine aw_callV (ci := 5) C mb_L_74 ⟨q_608, q_609, rfl⟩ hO (cX5_petals_ _ _ _ _ e1) dL_law_563 rfl (rest := []) rfl (cat_le _ (Nat.le_of_ble_eq_true rfl)) (by decide) (by omega) (by omega) (st2 := [.int r]) rfl ?_
  refine aw_aload_n C dL_law_566 rfl (j := 2) rfl ?_
  refine aw_aload_n C dL_law_567 rfl (j := 0) rfl ?_
  refine aw_iload_n C dL_law_568 rfl (j := 3) rfl ?_
  refine aw_iconst (v := 1) C dL_law_569 (by decide) ?_
  refine aw_iadd C dL_law_570 ?_
  refine aw_sld Q (law_ix (q := 1) hj (by decide) hL) dL_law_571 ?_
  refine aw_aload_n C dL_law_572 rfl (j := 0) rfl ?_
  refine aw_iload_n C dL_law_573 rfl (j := 3) rfl ?_
  refine aw_iconst (v := 2) C dL_law_574 (by decide) ?_
  refine aw_iadd C dL_law_575 ?_
  refine aw_sld Q (law_ix (q := 2) hj (by decide) hL) dL_law_576 ?_
  refine aw_callV (ci := 6) C mb_L_77 ⟨q_1051, q_1052, rfl⟩ hO1 (cX6_petals_ _ _ _ _ e2) dL_law_577 rfl (rest := [.int r]) rfl (cat_le _ (Nat.le_of_ble_eq_true rfl)) (by decide) (by omega) (by omega) (st2 := [.int r, .int r]) rfl ?_
  refine aw_ic_eq (tgt := 965) C dL_law_580 (by decide) (fun hc => ?_) (fun hc => absurd rfl hc)
  exact aw_wide (by omega) (by omega) (next _ _ hI2)
def St_closes (I : Hp → Nat → Prop) (x m N : Nat) : Prop := ∀ (h : Hp) (sz : Nat) (a1 : Int32) (a2 : Int32) (a3 : Int32), I h sz → ∃ (r : Int32) (h1 : Hp) (sz1 : Nat) (h2 : Hp), (fX5_closes N h (some x) a1 a2 a3 = some (r, h1) ∧ sz1 = sz) ∧ isO h1 (some m) 6 = true ∧ (fX6_closes N h1 (some m) a1 a2 a3 = some (r, h2)) ∧ I h2 sz1
set_option maxHeartbeats 4000000 in
set_option maxRecDepth 100000 in
theorem law_closes {Γ : GG} {b L : Nat} {xs : Nat → Int32} (Q : LC Γ b L xs) {I : Hp → Nat → Prop} {x m N : Nat} (S : St_closes I x m N) {h : Hp} {sz k n j : Nat} (hI : I h sz) (hO : isO h (some x) 5 = true) (hj : j + 6 ≤ L) (hk : k + 7 ≤ 717199) (hn : n + 46 ≤ 6950652) (next : ∀ (h : Hp) (sz : Nat), I h sz → AW Γ 4 h sz (k + 7) (n + 46) 965 (lawv b x m j) []) : AW Γ 4 h sz k n 585 (lawv b x m j) [] := by
  have C := Q.1
  have hL := Q.2.2.2.2
  obtain ⟨r, h1, sz1, h2, e1, hO1, e2, hI2⟩ := S h sz (xs (nI j + (1 : Int32)).toNatClampNeg) (xs (nI j + (2 : Int32)).toNatClampNeg) (xs (nI j + (3 : Int32)).toNatClampNeg) hI
  obtain ⟨e1, rfl⟩ := e1
  refine aw_aload_n C dL_law_585 rfl (j := 1) rfl ?_
  refine aw_aload_n C dL_law_586 rfl (j := 0) rfl ?_
  refine aw_iload_n C dL_law_587 rfl (j := 3) rfl ?_
  refine aw_iconst (v := 1) C dL_law_588 (by decide) ?_
  refine aw_iadd C dL_law_589 ?_
  refine aw_sld Q (law_ix (q := 1) hj (by decide) hL) dL_law_590 ?_
  refine aw_aload_n C dL_law_591 rfl (j := 0) rfl ?_
  refine aw_iload_n C dL_law_592 rfl (j := 3) rfl ?_
  refine aw_iconst (v := 2) C dL_law_593 (by decide) ?_
  refine aw_iadd C dL_law_594 ?_
  refine aw_sld Q (law_ix (q := 2) hj (by decide) hL) dL_law_595 ?_
  refine aw_aload_n C dL_law_596 rfl (j := 0) rfl ?_
  refine aw_iload_n C dL_law_597 rfl (j := 3) rfl ?_
  refine aw_iconst (v := 3) C dL_law_598 (by decide) ?_
  refine aw_iadd C dL_law_599 ?_
  refine aw_sld Q (law_ix (q := 3) hj (by decide) hL) dL_law_600 ?_
  refine aw_callV (ci := 5) C mb_L_78 ⟨q_612, q_613, rfl⟩ hO (cX5_closes_ _ _ _ _ e1) dL_law_601 rfl (rest := []) rfl (cat_le _ (Nat.le_of_ble_eq_true rfl)) (by decide) (by omega) (by omega) (st2 := [.int r]) rfl ?_
  refine aw_aload_n C dL_law_604 rfl (j := 2) rfl ?_
  refine aw_aload_n C dL_law_605 rfl (j := 0) rfl ?_
  refine aw_iload_n C dL_law_606 rfl (j := 3) rfl ?_
  refine aw_iconst (v := 1) C dL_law_607 (by decide) ?_
  refine aw_iadd C dL_law_608 ?_
  refine aw_sld Q (law_ix (q := 1) hj (by decide) hL) dL_law_609 ?_
  refine aw_aload_n C dL_law_610 rfl (j := 0) rfl ?_
  refine aw_iload_n C dL_law_611 rfl (j := 3) rfl ?_
  refine aw_iconst (v := 2) C dL_law_612 (by decide) ?_
  refine aw_iadd C dL_law_613 ?_
  refine aw_sld Q (law_ix (q := 2) hj (by decide) hL) dL_law_614 ?_
  refine aw_aload_n C dL_law_615 rfl (j := 0) rfl ?_
  refine aw_iload_n C dL_law_616 rfl (j := 3) rfl ?_
  refine aw_iconst (v := 3) C dL_law_617 (by decide) ?_
  refine aw_iadd C dL_law_618 ?_
  refine aw_sld Q (law_ix (q := 3) hj (by decide) hL) dL_law_619 ?_
  refine aw_callV (ci := 6) C mb_L_81 ⟨q_1055, q_1056, rfl⟩ hO1 (cX6_closes_ _ _ _ _ e2) dL_law_620 rfl (rest := [.int r]) rfl (cat_le _ (Nat.le_of_ble_eq_true rfl)) (by decide) (by omega) (by omega) (st2 := [.int r, .int r]) rfl ?_
  refine aw_ic_eq (tgt := 965) C dL_law_623 (by decide) (fun hc => ?_) (fun hc => absurd rfl hc)
  exact aw_wide (by omega) (by omega) (next _ _ hI2)
def St_best (I : Hp → Nat → Prop) (x m N : Nat) : Prop := ∀ (h : Hp) (sz : Nat) (a1 : Int32) (a2 : Int32), I h sz → ∃ (r : Int32) (h1 : Hp) (sz1 : Nat) (h2 : Hp), (fX5_best N h (some x) a1 a2 = some (r, h1) ∧ sz1 = sz) ∧ isO h1 (some m) 6 = true ∧ (fX6_best N h1 (some m) a1 a2 = some (r, h2)) ∧ I h2 sz1
set_option maxHeartbeats 4000000 in
set_option maxRecDepth 100000 in
theorem law_best {Γ : GG} {b L : Nat} {xs : Nat → Int32} (Q : LC Γ b L xs) {I : Hp → Nat → Prop} {x m N : Nat} (S : St_best I x m N) {h : Hp} {sz k n j : Nat} (hI : I h sz) (hO : isO h (some x) 5 = true) (hj : j + 6 ≤ L) (hk : k + 7 ≤ 717199) (hn : n + 46 ≤ 6950652) (next : ∀ (h : Hp) (sz : Nat), I h sz → AW Γ 4 h sz (k + 7) (n + 46) 965 (lawv b x m j) []) : AW Γ 4 h sz k n 628 (lawv b x m j) [] := by
  have C := Q.1
  have hL := Q.2.2.2.2
  obtain ⟨r, h1, sz1, h2, e1, hO1, e2, hI2⟩ := S h sz (xs (nI j + (1 : Int32)).toNatClampNeg) (xs (nI j + (2 : Int32)).toNatClampNeg) hI
  obtain ⟨e1, rfl⟩ := e1
  refine aw_aload_n C dL_law_628 rfl (j := 1) rfl ?_
  refine aw_aload_n C dL_law_629 rfl (j := 0) rfl ?_
  refine aw_iload_n C dL_law_630 rfl (j := 3) rfl ?_
  refine aw_iconst (v := 1) C dL_law_631 (by decide) ?_
  refine aw_iadd C dL_law_632 ?_
  refine aw_sld Q (law_ix (q := 1) hj (by decide) hL) dL_law_633 ?_
  refine aw_aload_n C dL_law_634 rfl (j := 0) rfl ?_
  refine aw_iload_n C dL_law_635 rfl (j := 3) rfl ?_
  refine aw_iconst (v := 2) C dL_law_636 (by decide) ?_
  refine aw_iadd C dL_law_637 ?_
  refine aw_sld Q (law_ix (q := 2) hj (by decide) hL) dL_law_638 ?_
  refine aw_callV (ci := 5) C mb_L_82 ⟨q_631, q_632, rfl⟩ hO (cX5_best_ _ _ _ _ e1) dL_law_639 rfl (rest := []) rfl (cat_le _ (Nat.le_of_ble_eq_true rfl)) (by decide) (by omega) (by omega) (st2 := [.int r]) rfl ?_
  refine aw_aload_n C dL_law_642 rfl (j := 2) rfl ?_
  refine aw_aload_n C dL_law_643 rfl (j := 0) rfl ?_
  refine aw_iload_n C dL_law_644 rfl (j := 3) rfl ?_
  refine aw_iconst (v := 1) C dL_law_645 (by decide) ?_
  refine aw_iadd C dL_law_646 ?_
  refine aw_sld Q (law_ix (q := 1) hj (by decide) hL) dL_law_647 ?_
  refine aw_aload_n C dL_law_648 rfl (j := 0) rfl ?_
  refine aw_iload_n C dL_law_649 rfl (j := 3) rfl ?_
  refine aw_iconst (v := 2) C dL_law_650 (by decide) ?_
  refine aw_iadd C dL_law_651 ?_
  refine aw_sld Q (law_ix (q := 2) hj (by decide) hL) dL_law_652 ?_
  refine aw_callV (ci := 6) C mb_L_85 ⟨q_1072, q_1073, rfl⟩ hO1 (cX6_best_ _ _ _ _ e2) dL_law_653 rfl (rest := [.int r]) rfl (cat_le _ (Nat.le_of_ble_eq_true rfl)) (by decide) (by omega) (by omega) (st2 := [.int r, .int r]) rfl ?_
  refine aw_ic_eq (tgt := 965) C dL_law_656 (by decide) (fun hc => ?_) (fun hc => absurd rfl hc)
  exact aw_wide (by omega) (by omega) (next _ _ hI2)
def St_meet (I : Hp → Nat → Prop) (x m N : Nat) : Prop := ∀ (h : Hp) (sz : Nat) (a1 : Int32) (a2 : Int32), I h sz → ∃ (r : Int32) (h1 : Hp) (sz1 : Nat) (h2 : Hp), (fX5_meet N h (some x) a1 a2 = some r ∧ h1 = h ∧ sz1 = sz) ∧ isO h1 (some m) 6 = true ∧ (fX6_meet N h1 (some m) a1 a2 = some r ∧ h2 = h1) ∧ I h2 sz1
set_option maxHeartbeats 4000000 in
set_option maxRecDepth 100000 in
theorem law_meet {Γ : GG} {b L : Nat} {xs : Nat → Int32} (Q : LC Γ b L xs) {I : Hp → Nat → Prop} {x m N : Nat} (S : St_meet I x m N) {h : Hp} {sz k n j : Nat} (hI : I h sz) (hO : isO h (some x) 5 = true) (hj : j + 6 ≤ L) (hk : k + 7 ≤ 717199) (hn : n + 46 ≤ 6950652) (next : ∀ (h : Hp) (sz : Nat), I h sz → AW Γ 4 h sz (k + 7) (n + 46) 965 (lawv b x m j) []) : AW Γ 4 h sz k n 661 (lawv b x m j) [] := by
  have C := Q.1
  have hL := Q.2.2.2.2
  obtain ⟨r, h1, sz1, h2, e1, hO1, e2, hI2⟩ := S h sz (xs (nI j + (1 : Int32)).toNatClampNeg) (xs (nI j + (2 : Int32)).toNatClampNeg) hI
  obtain ⟨e1, rfl, rfl⟩ := e1
  obtain ⟨e2, rfl⟩ := e2
  refine aw_aload_n C dL_law_661 rfl (j := 1) rfl ?_
  refine aw_aload_n C dL_law_662 rfl (j := 0) rfl ?_
  refine aw_iload_n C dL_law_663 rfl (j := 3) rfl ?_
  refine aw_iconst (v := 1) C dL_law_664 (by decide) ?_
  refine aw_iadd C dL_law_665 ?_
  refine aw_sld Q (law_ix (q := 1) hj (by decide) hL) dL_law_666 ?_
  refine aw_aload_n C dL_law_667 rfl (j := 0) rfl ?_
  refine aw_iload_n C dL_law_668 rfl (j := 3) rfl ?_
  refine aw_iconst (v := 2) C dL_law_669 (by decide) ?_
  refine aw_iadd C dL_law_670 ?_
  refine aw_sld Q (law_ix (q := 2) hj (by decide) hL) dL_law_671 ?_
  refine aw_callV (ci := 5) C mb_L_86 ⟨q_644, q_645, rfl⟩ hO (cX5_meet_ _ _ _ _ e1) dL_law_672 rfl (rest := []) rfl (cat_le _ (Nat.le_of_ble_eq_true rfl)) (by decide) (by omega) (by omega) (st2 := [.int r]) rfl ?_
  refine aw_aload_n C dL_law_675 rfl (j := 2) rfl ?_
  refine aw_aload_n C dL_law_676 rfl (j := 0) rfl ?_
  refine aw_iload_n C dL_law_677 rfl (j := 3) rfl ?_
  refine aw_iconst (v := 1) C dL_law_678 (by decide) ?_
  refine aw_iadd C dL_law_679 ?_
  refine aw_sld Q (law_ix (q := 1) hj (by decide) hL) dL_law_680 ?_
  refine aw_aload_n C dL_law_681 rfl (j := 0) rfl ?_
  refine aw_iload_n C dL_law_682 rfl (j := 3) rfl ?_
  refine aw_iconst (v := 2) C dL_law_683 (by decide) ?_
  refine aw_iadd C dL_law_684 ?_
  refine aw_sld Q (law_ix (q := 2) hj (by decide) hL) dL_law_685 ?_
  refine aw_callV (ci := 6) C mb_L_89 ⟨q_1080, q_1081, rfl⟩ hO1 (cX6_meet_ _ _ _ _ e2) dL_law_686 rfl (rest := [.int r]) rfl (cat_le _ (Nat.le_of_ble_eq_true rfl)) (by decide) (by omega) (by omega) (st2 := [.int r, .int r]) rfl ?_
  refine aw_ic_eq (tgt := 965) C dL_law_689 (by decide) (fun hc => ?_) (fun hc => absurd rfl hc)
  exact aw_wide (by omega) (by omega) (next _ _ hI2)
def St_odds (I : Hp → Nat → Prop) (x m N : Nat) : Prop := ∀ (h : Hp) (sz : Nat) (a1 : Int32) (a2 : Int32) (a3 : Int32) (a4 : Int32), I h sz → ∃ (r : Int32) (h1 : Hp) (sz1 : Nat) (h2 : Hp), (fX5_odds N h (some x) a1 a2 a3 a4 = some r ∧ h1 = h ∧ sz1 = sz) ∧ isO h1 (some m) 6 = true ∧ (fX6_odds N h1 (some m) a1 a2 a3 a4 = some r ∧ h2 = h1) ∧ I h2 sz1
set_option maxHeartbeats 4000000 in
set_option maxRecDepth 100000 in
theorem law_odds {Γ : GG} {b L : Nat} {xs : Nat → Int32} (Q : LC Γ b L xs) {I : Hp → Nat → Prop} {x m N : Nat} (S : St_odds I x m N) {h : Hp} {sz k n j : Nat} (hI : I h sz) (hO : isO h (some x) 5 = true) (hj : j + 6 ≤ L) (hk : k + 7 ≤ 717199) (hn : n + 46 ≤ 6950652) (next : ∀ (h : Hp) (sz : Nat), I h sz → AW Γ 4 h sz (k + 7) (n + 46) 965 (lawv b x m j) []) : AW Γ 4 h sz k n 694 (lawv b x m j) [] := by
  have C := Q.1
  have hL := Q.2.2.2.2
  obtain ⟨r, h1, sz1, h2, e1, hO1, e2, hI2⟩ := S h sz (xs (nI j + (1 : Int32)).toNatClampNeg) (xs (nI j + (2 : Int32)).toNatClampNeg) (xs (nI j + (3 : Int32)).toNatClampNeg) (xs (nI j + (4 : Int32)).toNatClampNeg) hI
  obtain ⟨e1, rfl, rfl⟩ := e1
  obtain ⟨e2, rfl⟩ := e2
  refine aw_aload_n C dL_law_694 rfl (j := 1) rfl ?_
  refine aw_aload_n C dL_law_695 rfl (j := 0) rfl ?_
  refine aw_iload_n C dL_law_696 rfl (j := 3) rfl ?_
  refine aw_iconst (v := 1) C dL_law_697 (by decide) ?_
  refine aw_iadd C dL_law_698 ?_
  refine aw_sld Q (law_ix (q := 1) hj (by decide) hL) dL_law_699 ?_
  refine aw_aload_n C dL_law_700 rfl (j := 0) rfl ?_
  refine aw_iload_n C dL_law_701 rfl (j := 3) rfl ?_
  refine aw_iconst (v := 2) C dL_law_702 (by decide) ?_
  refine aw_iadd C dL_law_703 ?_
  refine aw_sld Q (law_ix (q := 2) hj (by decide) hL) dL_law_704 ?_
  refine aw_aload_n C dL_law_705 rfl (j := 0) rfl ?_
  refine aw_iload_n C dL_law_706 rfl (j := 3) rfl ?_
  refine aw_iconst (v := 3) C dL_law_707 (by decide) ?_
  refine aw_iadd C dL_law_708 ?_
  refine aw_sld Q (law_ix (q := 3) hj (by decide) hL) dL_law_709 ?_
  refine aw_aload_n C dL_law_710 rfl (j := 0) rfl ?_
  refine aw_iload_n C dL_law_711 rfl (j := 3) rfl ?_
  refine aw_iconst (v := 4) C dL_law_712 (by decide) ?_
  refine aw_iadd C dL_law_713 ?_
  refine aw_sld Q (law_ix (q := 4) hj (by decide) hL) dL_law_714 ?_
  refine aw_callV (ci := 5) C mb_L_90 ⟨q_648, q_649, rfl⟩ hO (cX5_odds_ _ _ _ _ e1) dL_law_715 rfl (rest := []) rfl (cat_le _ (Nat.le_of_ble_eq_true rfl)) (by decide) (by omega) (by omega) (st2 := [.int r]) rfl ?_
  refine aw_aload_n C dL_law_718 rfl (j := 2) rfl ?_
  refine aw_aload_n C dL_law_719 rfl (j := 0) rfl ?_
  refine aw_iload_n C dL_law_720 rfl (j := 3) rfl ?_
  refine aw_iconst (v := 1) C dL_law_721 (by decide) ?_
  refine aw_iadd C dL_law_722 ?_
  refine aw_sld Q (law_ix (q := 1) hj (by decide) hL) dL_law_723 ?_
  refine aw_aload_n C dL_law_724 rfl (j := 0) rfl ?_
  refine aw_iload_n C dL_law_725 rfl (j := 3) rfl ?_
  refine aw_iconst (v := 2) C dL_law_726 (by decide) ?_
  refine aw_iadd C dL_law_727 ?_
  refine aw_sld Q (law_ix (q := 2) hj (by decide) hL) dL_law_728 ?_
  refine aw_aload_n C dL_law_729 rfl (j := 0) rfl ?_
  refine aw_iload_n C dL_law_730 rfl (j := 3) rfl ?_
  refine aw_iconst (v := 3) C dL_law_731 (by decide) ?_
  refine aw_iadd C dL_law_732 ?_
  refine aw_sld Q (law_ix (q := 3) hj (by decide) hL) dL_law_733 ?_
  refine aw_aload_n C dL_law_734 rfl (j := 0) rfl ?_
  refine aw_iload_n C dL_law_735 rfl (j := 3) rfl ?_
  refine aw_iconst (v := 4) C dL_law_736 (by decide) ?_
  refine aw_iadd C dL_law_737 ?_
  refine aw_sld Q (law_ix (q := 4) hj (by decide) hL) dL_law_738 ?_
  refine aw_callV (ci := 6) C mb_L_94 ⟨q_1084, q_1085, rfl⟩ hO1 (cX6_odds_ _ _ _ _ e2) dL_law_739 rfl (rest := [.int r]) rfl (cat_le _ (Nat.le_of_ble_eq_true rfl)) (by decide) (by omega) (by omega) (st2 := [.int r, .int r]) rfl ?_
  refine aw_ic_eq (tgt := 965) C dL_law_742 (by decide) (fun hc => ?_) (fun hc => absurd rfl hc)
  exact aw_wide (by omega) (by omega) (next _ _ hI2)
def St_sees (I : Hp → Nat → Prop) (x m N : Nat) : Prop := ∀ (h : Hp) (sz : Nat) (a1 : Int32) (a2 : Int32), I h sz → ∃ (r : Int32) (h1 : Hp) (sz1 : Nat) (h2 : Hp), (fX5_sees N h (some x) a1 a2 = some (r, h1) ∧ sz1 = sz) ∧ isO h1 (some m) 6 = true ∧ (fX6_sees N h1 (some m) a1 a2 = some (r, h2)) ∧ I h2 sz1
set_option maxHeartbeats 4000000 in
set_option maxRecDepth 100000 in
theorem law_sees {Γ : GG} {b L : Nat} {xs : Nat → Int32} (Q : LC Γ b L xs) {I : Hp → Nat → Prop} {x m N : Nat} (S : St_sees I x m N) {h : Hp} {sz k n j : Nat} (hI : I h sz) (hO : isO h (some x) 5 = true) (hj : j + 6 ≤ L) (hk : k + 7 ≤ 717199) (hn : n + 46 ≤ 6950652) (next : ∀ (h : Hp) (sz : Nat), I h sz → AW Γ 4 h sz (k + 7) (n + 46) 965 (lawv b x m j) []) : AW Γ 4 h sz k n 747 (lawv b x m j) [] := by
  have C := Q.1
  have hL := Q.2.2.2.2
  obtain ⟨r, h1, sz1, h2, e1, hO1, e2, hI2⟩ := S h sz (xs (nI j + (1 : Int32)).toNatClampNeg) (xs (nI j + (2 : Int32)).toNatClampNeg) hI
  obtain ⟨e1, rfl⟩ := e1
  refine aw_aload_n C dL_law_747 rfl (j := 1) rfl ?_
  refine aw_aload_n C dL_law_748 rfl (j := 0) rfl ?_
  refine aw_iload_n C dL_law_749 rfl (j := 3) rfl ?_
  refine aw_iconst (v := 1) C dL_law_750 (by decide) ?_
  refine aw_iadd C dL_law_751 ?_
  refine aw_sld Q (law_ix (q := 1) hj (by decide) hL) dL_law_752 ?_
  refine aw_aload_n C dL_law_753 rfl (j := 0) rfl ?_
  refine aw_iload_n C dL_law_754 rfl (j := 3) rfl ?_
  refine aw_iconst (v := 2) C dL_law_755 (by decide) ?_
  refine aw_iadd C dL_law_756 ?_
  refine aw_sld Q (law_ix (q := 2) hj (by decide) hL) dL_law_757 ?_
  refine aw_callV (ci := 5) C mb_L_95 ⟨q_652, q_653, rfl⟩ hO (cX5_sees_ _ _ _ _ e1) dL_law_758 rfl (rest := []) rfl (cat_le _ (Nat.le_of_ble_eq_true rfl)) (by decide) (by omega) (by omega) (st2 := [.int r]) rfl ?_
  refine aw_aload_n C dL_law_761 rfl (j := 2) rfl ?_
  refine aw_aload_n C dL_law_762 rfl (j := 0) rfl ?_
  refine aw_iload_n C dL_law_763 rfl (j := 3) rfl ?_
  refine aw_iconst (v := 1) C dL_law_764 (by decide) ?_
  refine aw_iadd C dL_law_765 ?_
  refine aw_sld Q (law_ix (q := 1) hj (by decide) hL) dL_law_766 ?_
  refine aw_aload_n C dL_law_767 rfl (j := 0) rfl ?_
  refine aw_iload_n C dL_law_768 rfl (j := 3) rfl ?_
  refine aw_iconst (v := 2) C dL_law_769 (by decide) ?_
  refine aw_iadd C dL_law_770 ?_
  refine aw_sld Q (law_ix (q := 2) hj (by decide) hL) dL_law_771 ?_
  refine aw_callV (ci := 6) C mb_L_98 ⟨q_1088, q_1089, rfl⟩ hO1 (cX6_sees_ _ _ _ _ e2) dL_law_772 rfl (rest := [.int r]) rfl (cat_le _ (Nat.le_of_ble_eq_true rfl)) (by decide) (by omega) (by omega) (st2 := [.int r, .int r]) rfl ?_
  refine aw_ic_eq (tgt := 965) C dL_law_775 (by decide) (fun hc => ?_) (fun hc => absurd rfl hc)
  exact aw_wide (by omega) (by omega) (next _ _ hI2)
def St_forget (I : Hp → Nat → Prop) (x m N : Nat) : Prop := ∀ (h : Hp) (sz : Nat), I h sz → ∃ (r : Int32) (h1 : Hp) (sz1 : Nat) (h2 : Hp), (fX5_forget N h (some x) = some (r, h1) ∧ sz1 = sz) ∧ isO h1 (some m) 6 = true ∧ (fX6_forget N h1 (some m) = some (r, h2)) ∧ I h2 sz1
set_option maxHeartbeats 4000000 in
set_option maxRecDepth 100000 in
theorem law_forget {Γ : GG} {b L : Nat} {xs : Nat → Int32} (Q : LC Γ b L xs) {I : Hp → Nat → Prop} {x m N : Nat} (S : St_forget I x m N) {h : Hp} {sz k n j : Nat} (hI : I h sz) (hO : isO h (some x) 5 = true) (hj : j + 6 ≤ L) (hk : k + 7 ≤ 717199) (hn : n + 46 ≤ 6950652) (next : ∀ (h : Hp) (sz : Nat), I h sz → AW Γ 4 h sz (k + 7) (n + 46) 965 (lawv b x m j) []) : AW Γ 4 h sz k n 780 (lawv b x m j) [] := by
  have C := Q.1
  have hL := Q.2.2.2.2
  obtain ⟨r, h1, sz1, h2, e1, hO1, e2, hI2⟩ := S h sz  hI
  obtain ⟨e1, rfl⟩ := e1
  refine aw_aload_n C dL_law_780 rfl (j := 1) rfl ?_
  refine aw_callV (ci := 5) C mb_L_99 ⟨q_660, q_661, rfl⟩ hO (cX5_forget_ _ _ _ _ e1) dL_law_781 rfl (rest := []) rfl (cat_le _ (Nat.le_of_ble_eq_true rfl)) (by decide) (by omega) (by omega) (st2 := [.int r]) rfl ?_
  refine aw_aload_n C dL_law_784 rfl (j := 2) rfl ?_
  refine aw_callV (ci := 6) C mb_L_102 ⟨q_1092, q_1093, rfl⟩ hO1 (cX6_forget_ _ _ _ _ e2) dL_law_785 rfl (rest := [.int r]) rfl (cat_le _ (Nat.le_of_ble_eq_true rfl)) (by decide) (by omega) (by omega) (st2 := [.int r, .int r]) rfl ?_
  refine aw_ic_eq (tgt := 965) C dL_law_788 (by decide) (fun hc => ?_) (fun hc => absurd rfl hc)
  exact aw_wide (by omega) (by omega) (next _ _ hI2)
def St_guess (I : Hp → Nat → Prop) (x m N : Nat) : Prop := ∀ (h : Hp) (sz : Nat) (a1 : Int32) (a2 : Int32), I h sz → ∃ (r : Int32) (h1 : Hp) (sz1 : Nat) (h2 : Hp), (fX5_guess N h (some x) a1 a2 = some r ∧ h1 = h ∧ sz1 = sz) ∧ isO h1 (some m) 6 = true ∧ (fX6_guess N h1 (some m) a1 a2 = some r ∧ h2 = h1) ∧ I h2 sz1
set_option maxHeartbeats 4000000 in
set_option maxRecDepth 100000 in
theorem law_guess {Γ : GG} {b L : Nat} {xs : Nat → Int32} (Q : LC Γ b L xs) {I : Hp → Nat → Prop} {x m N : Nat} (S : St_guess I x m N) {h : Hp} {sz k n j : Nat} (hI : I h sz) (hO : isO h (some x) 5 = true) (hj : j + 6 ≤ L) (hk : k + 7 ≤ 717199) (hn : n + 46 ≤ 6950652) (next : ∀ (h : Hp) (sz : Nat), I h sz → AW Γ 4 h sz (k + 7) (n + 46) 965 (lawv b x m j) []) : AW Γ 4 h sz k n 793 (lawv b x m j) [] := by
  have C := Q.1
  have hL := Q.2.2.2.2
  obtain ⟨r, h1, sz1, h2, e1, hO1, e2, hI2⟩ := S h sz (xs (nI j + (1 : Int32)).toNatClampNeg) (xs (nI j + (2 : Int32)).toNatClampNeg) hI
  obtain ⟨e1, rfl, rfl⟩ := e1
  obtain ⟨e2, rfl⟩ := e2
  refine aw_aload_n C dL_law_793 rfl (j := 1) rfl ?_
  refine aw_aload_n C dL_law_794 rfl (j := 0) rfl ?_
  refine aw_iload_n C dL_law_795 rfl (j := 3) rfl ?_
  refine aw_iconst (v := 1) C dL_law_796 (by decide) ?_
  refine aw_iadd C dL_law_797 ?_
  refine aw_sld Q (law_ix (q := 1) hj (by decide) hL) dL_law_798 ?_
  refine aw_aload_n C dL_law_799 rfl (j := 0) rfl ?_
  refine aw_iload_n C dL_law_800 rfl (j := 3) rfl ?_
  refine aw_iconst (v := 2) C dL_law_801 (by decide) ?_
  refine aw_iadd C dL_law_802 ?_
  refine aw_sld Q (law_ix (q := 2) hj (by decide) hL) dL_law_803 ?_
  refine aw_callV (ci := 5) C mb_L_103 ⟨q_664, q_665, rfl⟩ hO (cX5_guess_ _ _ _ _ e1) dL_law_804 rfl (rest := []) rfl (cat_le _ (Nat.le_of_ble_eq_true rfl)) (by decide) (by omega) (by omega) (st2 := [.int r]) rfl ?_
  refine aw_aload_n C dL_law_807 rfl (j := 2) rfl ?_
  refine aw_aload_n C dL_law_808 rfl (j := 0) rfl ?_
  refine aw_iload_n C dL_law_809 rfl (j := 3) rfl ?_
  refine aw_iconst (v := 1) C dL_law_810 (by decide) ?_
  refine aw_iadd C dL_law_811 ?_
  refine aw_sld Q (law_ix (q := 1) hj (by decide) hL) dL_law_812 ?_
  refine aw_aload_n C dL_law_813 rfl (j := 0) rfl ?_
  refine aw_iload_n C dL_law_814 rfl (j := 3) rfl ?_
  refine aw_iconst (v := 2) C dL_law_815 (by decide) ?_
  refine aw_iadd C dL_law_816 ?_
  refine aw_sld Q (law_ix (q := 2) hj (by decide) hL) dL_law_817 ?_
  refine aw_callV (ci := 6) C mb_L_106 ⟨q_1096, q_1097, rfl⟩ hO1 (cX6_guess_ _ _ _ _ e2) dL_law_818 rfl (rest := [.int r]) rfl (cat_le _ (Nat.le_of_ble_eq_true rfl)) (by decide) (by omega) (by omega) (st2 := [.int r, .int r]) rfl ?_
  refine aw_ic_eq (tgt := 965) C dL_law_821 (by decide) (fun hc => ?_) (fun hc => absurd rfl hc)
  exact aw_wide (by omega) (by omega) (next _ _ hI2)
def St_look (I : Hp → Nat → Prop) (x m N : Nat) : Prop := ∀ (h : Hp) (sz : Nat) (a1 : Int32), I h sz → ∃ (r : Int32) (h1 : Hp) (sz1 : Nat) (h2 : Hp), (fX5_look N h (some x) a1 = some (r, h1) ∧ sz1 = sz) ∧ isO h1 (some m) 6 = true ∧ (fX6_look N h1 (some m) a1 = some (r, h2)) ∧ I h2 sz1
set_option maxHeartbeats 4000000 in
set_option maxRecDepth 100000 in
theorem law_look {Γ : GG} {b L : Nat} {xs : Nat → Int32} (Q : LC Γ b L xs) {I : Hp → Nat → Prop} {x m N : Nat} (S : St_look I x m N) {h : Hp} {sz k n j : Nat} (hI : I h sz) (hO : isO h (some x) 5 = true) (hj : j + 6 ≤ L) (hk : k + 7 ≤ 717199) (hn : n + 46 ≤ 6950652) (next : ∀ (h : Hp) (sz : Nat), I h sz → AW Γ 4 h sz (k + 7) (n + 46) 965 (lawv b x m j) []) : AW Γ 4 h sz k n 826 (lawv b x m j) [] := by
  have C := Q.1
  have hL := Q.2.2.2.2
  obtain ⟨r, h1, sz1, h2, e1, hO1, e2, hI2⟩ := S h sz (xs (nI j + (1 : Int32)).toNatClampNeg) hI
  obtain ⟨e1, rfl⟩ := e1
  refine aw_aload_n C dL_law_826 rfl (j := 1) rfl ?_
  refine aw_aload_n C dL_law_827 rfl (j := 0) rfl ?_
  refine aw_iload_n C dL_law_828 rfl (j := 3) rfl ?_
  refine aw_iconst (v := 1) C dL_law_829 (by decide) ?_
  refine aw_iadd C dL_law_830 ?_
  refine aw_sld Q (law_ix (q := 1) hj (by decide) hL) dL_law_831 ?_
  refine aw_callV (ci := 5) C mb_L_107 ⟨q_689, q_690, rfl⟩ hO (cX5_look_ _ _ _ _ e1) dL_law_832 rfl (rest := []) rfl (cat_le _ (Nat.le_of_ble_eq_true rfl)) (by decide) (by omega) (by omega) (st2 := [.int r]) rfl ?_
  refine aw_aload_n C dL_law_835 rfl (j := 2) rfl ?_
  refine aw_aload_n C dL_law_836 rfl (j := 0) rfl ?_
  refine aw_iload_n C dL_law_837 rfl (j := 3) rfl ?_
  refine aw_iconst (v := 1) C dL_law_838 (by decide) ?_
  refine aw_iadd C dL_law_839 ?_
  refine aw_sld Q (law_ix (q := 1) hj (by decide) hL) dL_law_840 ?_
  refine aw_callV (ci := 6) C mb_L_110 ⟨q_1104, q_1105, rfl⟩ hO1 (cX6_look_ _ _ _ _ e2) dL_law_841 rfl (rest := [.int r]) rfl (cat_le _ (Nat.le_of_ble_eq_true rfl)) (by decide) (by omega) (by omega) (st2 := [.int r, .int r]) rfl ?_
  refine aw_ic_eq (tgt := 965) C dL_law_844 (by decide) (fun hc => ?_) (fun hc => absurd rfl hc)
  exact aw_wide (by omega) (by omega) (next _ _ hI2)
def St_mark (I : Hp → Nat → Prop) (x m N : Nat) : Prop := ∀ (h : Hp) (sz : Nat) (a1 : Int32) (a2 : Int32), I h sz → ∃ (r : Int32) (h1 : Hp) (sz1 : Nat) (h2 : Hp), (fX5_mark N h (some x) a1 a2 = some (r, h1) ∧ sz1 = sz) ∧ isO h1 (some m) 6 = true ∧ (fX6_mark N h1 (some m) a1 a2 = some (r, h2)) ∧ I h2 sz1
set_option maxHeartbeats 4000000 in
set_option maxRecDepth 100000 in
theorem law_mark {Γ : GG} {b L : Nat} {xs : Nat → Int32} (Q : LC Γ b L xs) {I : Hp → Nat → Prop} {x m N : Nat} (S : St_mark I x m N) {h : Hp} {sz k n j : Nat} (hI : I h sz) (hO : isO h (some x) 5 = true) (hj : j + 6 ≤ L) (hk : k + 7 ≤ 717199) (hn : n + 46 ≤ 6950652) (next : ∀ (h : Hp) (sz : Nat), I h sz → AW Γ 4 h sz (k + 7) (n + 46) 965 (lawv b x m j) []) : AW Γ 4 h sz k n 849 (lawv b x m j) [] := by
  have C := Q.1
  have hL := Q.2.2.2.2
  obtain ⟨r, h1, sz1, h2, e1, hO1, e2, hI2⟩ := S h sz (xs (nI j + (1 : Int32)).toNatClampNeg) (xs (nI j + (2 : Int32)).toNatClampNeg) hI
  obtain ⟨e1, rfl⟩ := e1
  refine aw_aload_n C dL_law_849 rfl (j := 1) rfl ?_
  refine aw_aload_n C dL_law_850 rfl (j := 0) rfl ?_
  refine aw_iload_n C dL_law_851 rfl (j := 3) rfl ?_
  refine aw_iconst (v := 1) C dL_law_852 (by decide) ?_
  refine aw_iadd C dL_law_853 ?_
  refine aw_sld Q (law_ix (q := 1) hj (by decide) hL) dL_law_854 ?_
  refine aw_aload_n C dL_law_855 rfl (j := 0) rfl ?_
  refine aw_iload_n C dL_law_856 rfl (j := 3) rfl ?_
  refine aw_iconst (v := 2) C dL_law_857 (by decide) ?_
  refine aw_iadd C dL_law_858 ?_
  refine aw_sld Q (law_ix (q := 2) hj (by decide) hL) dL_law_859 ?_
  refine aw_callV (ci := 5) C mb_L_111 ⟨q_702, q_703, rfl⟩ hO (cX5_mark_ _ _ _ _ e1) dL_law_860 rfl (rest := []) rfl (cat_le _ (Nat.le_of_ble_eq_true rfl)) (by decide) (by omega) (by omega) (st2 := [.int r]) rfl ?_
  refine aw_aload_n C dL_law_863 rfl (j := 2) rfl ?_
  refine aw_aload_n C dL_law_864 rfl (j := 0) rfl ?_
  refine aw_iload_n C dL_law_865 rfl (j := 3) rfl ?_
  refine aw_iconst (v := 1) C dL_law_866 (by decide) ?_
  refine aw_iadd C dL_law_867 ?_
  refine aw_sld Q (law_ix (q := 1) hj (by decide) hL) dL_law_868 ?_
  refine aw_aload_n C dL_law_869 rfl (j := 0) rfl ?_
  refine aw_iload_n C dL_law_870 rfl (j := 3) rfl ?_
  refine aw_iconst (v := 2) C dL_law_871 (by decide) ?_
  refine aw_iadd C dL_law_872 ?_
  refine aw_sld Q (law_ix (q := 2) hj (by decide) hL) dL_law_873 ?_
  refine aw_callV (ci := 6) C mb_L_114 ⟨q_1108, q_1109, rfl⟩ hO1 (cX6_mark_ _ _ _ _ e2) dL_law_874 rfl (rest := [.int r]) rfl (cat_le _ (Nat.le_of_ble_eq_true rfl)) (by decide) (by omega) (by omega) (st2 := [.int r, .int r]) rfl ?_
  refine aw_ic_eq (tgt := 965) C dL_law_877 (by decide) (fun hc => ?_) (fun hc => absurd rfl hc)
  exact aw_wide (by omega) (by omega) (next _ _ hI2)
def St_keep (I : Hp → Nat → Prop) (x m N : Nat) : Prop := ∀ (h : Hp) (sz : Nat) (a1 : Int32), I h sz → ∃ (r : Int32) (h1 : Hp) (sz1 : Nat) (h2 : Hp), (fX5_keep N h sz (some x) a1 = some (r, h1, sz1)) ∧ isO h1 (some m) 6 = true ∧ (fX6_keep N h1 (some m) a1 = some (r, h2)) ∧ I h2 sz1
set_option maxHeartbeats 4000000 in
set_option maxRecDepth 100000 in
theorem law_keep {Γ : GG} {b L : Nat} {xs : Nat → Int32} (Q : LC Γ b L xs) {I : Hp → Nat → Prop} {x m N : Nat} (S : St_keep I x m N) {h : Hp} {sz k n j : Nat} (hI : I h sz) (hO : isO h (some x) 5 = true) (hj : j + 6 ≤ L) (hk : k + 7 ≤ 717199) (hn : n + 46 ≤ 6950652) (next : ∀ (h : Hp) (sz : Nat), I h sz → AW Γ 4 h sz (k + 7) (n + 46) 965 (lawv b x m j) []) : AW Γ 4 h sz k n 882 (lawv b x m j) [] := by
  have C := Q.1
  have hL := Q.2.2.2.2
  obtain ⟨r, h1, sz1, h2, e1, hO1, e2, hI2⟩ := S h sz (xs (nI j + (1 : Int32)).toNatClampNeg) hI
  refine aw_aload_n C dL_law_882 rfl (j := 1) rfl ?_
  refine aw_aload_n C dL_law_883 rfl (j := 0) rfl ?_
  refine aw_iload_n C dL_law_884 rfl (j := 3) rfl ?_
  refine aw_iconst (v := 1) C dL_law_885 (by decide) ?_
  refine aw_iadd C dL_law_886 ?_
  refine aw_sld Q (law_ix (q := 1) hj (by decide) hL) dL_law_887 ?_
  refine aw_callV (ci := 5) C mb_L_115 ⟨q_736, q_737, rfl⟩ hO (cX5_keep_ _ _ _ _ e1) dL_law_888 rfl (rest := []) rfl (cat_le _ (Nat.le_of_ble_eq_true rfl)) (by decide) (by omega) (by omega) (st2 := [.int r]) rfl ?_
  refine aw_aload_n C dL_law_891 rfl (j := 2) rfl ?_
  refine aw_aload_n C dL_law_892 rfl (j := 0) rfl ?_
  refine aw_iload_n C dL_law_893 rfl (j := 3) rfl ?_
  refine aw_iconst (v := 1) C dL_law_894 (by decide) ?_
  refine aw_iadd C dL_law_895 ?_
  refine aw_sld Q (law_ix (q := 1) hj (by decide) hL) dL_law_896 ?_
  refine aw_callV (ci := 6) C mb_L_118 ⟨q_1122, q_1123, rfl⟩ hO1 (cX6_keep_ _ _ _ _ e2) dL_law_897 rfl (rest := [.int r]) rfl (cat_le _ (Nat.le_of_ble_eq_true rfl)) (by decide) (by omega) (by omega) (st2 := [.int r, .int r]) rfl ?_
  refine aw_ic_eq (tgt := 965) C dL_law_900 (by decide) (fun hc => ?_) (fun hc => absurd rfl hc)
  exact aw_wide (by omega) (by omega) (next _ _ hI2)
def St_back (I : Hp → Nat → Prop) (x m N : Nat) : Prop := ∀ (h : Hp) (sz : Nat) (a1 : Int32), I h sz → ∃ (r : Int32) (h1 : Hp) (sz1 : Nat) (h2 : Hp), (fX5_back N h (some x) a1 = some (r, h1) ∧ sz1 = sz) ∧ isO h1 (some m) 6 = true ∧ (fX6_back N h1 (some m) a1 = some (r, h2)) ∧ I h2 sz1
set_option maxHeartbeats 4000000 in
set_option maxRecDepth 100000 in
theorem law_back {Γ : GG} {b L : Nat} {xs : Nat → Int32} (Q : LC Γ b L xs) {I : Hp → Nat → Prop} {x m N : Nat} (S : St_back I x m N) {h : Hp} {sz k n j : Nat} (hI : I h sz) (hO : isO h (some x) 5 = true) (hj : j + 6 ≤ L) (hk : k + 7 ≤ 717199) (hn : n + 46 ≤ 6950652) (next : ∀ (h : Hp) (sz : Nat), I h sz → AW Γ 4 h sz (k + 7) (n + 46) 965 (lawv b x m j) []) : AW Γ 4 h sz k n 905 (lawv b x m j) [] := by
  have C := Q.1
  have hL := Q.2.2.2.2
  obtain ⟨r, h1, sz1, h2, e1, hO1, e2, hI2⟩ := S h sz (xs (nI j + (1 : Int32)).toNatClampNeg) hI
  obtain ⟨e1, rfl⟩ := e1
  refine aw_aload_n C dL_law_905 rfl (j := 1) rfl ?_
  refine aw_aload_n C dL_law_906 rfl (j := 0) rfl ?_
  refine aw_iload_n C dL_law_907 rfl (j := 3) rfl ?_
  refine aw_iconst (v := 1) C dL_law_908 (by decide) ?_
  refine aw_iadd C dL_law_909 ?_
  refine aw_sld Q (law_ix (q := 1) hj (by decide) hL) dL_law_910 ?_
  refine aw_callV (ci := 5) C mb_L_119 ⟨q_760, q_761, rfl⟩ hO (cX5_back_ _ _ _ _ e1) dL_law_911 rfl (rest := []) rfl (cat_le _ (Nat.le_of_ble_eq_true rfl)) (by decide) (by omega) (by omega) (st2 := [.int r]) rfl ?_
  refine aw_aload_n C dL_law_914 rfl (j := 2) rfl ?_
  refine aw_aload_n C dL_law_915 rfl (j := 0) rfl ?_
  refine aw_iload_n C dL_law_916 rfl (j := 3) rfl ?_
  refine aw_iconst (v := 1) C dL_law_917 (by decide) ?_
  refine aw_iadd C dL_law_918 ?_
  refine aw_sld Q (law_ix (q := 1) hj (by decide) hL) dL_law_919 ?_
  refine aw_callV (ci := 6) C mb_L_122 ⟨q_1126, q_1127, rfl⟩ hO1 (cX6_back_ _ _ _ _ e2) dL_law_920 rfl (rest := [.int r]) rfl (cat_le _ (Nat.le_of_ble_eq_true rfl)) (by decide) (by omega) (by omega) (st2 := [.int r, .int r]) rfl ?_
  refine aw_ic_eq (tgt := 965) C dL_law_923 (by decide) (fun hc => ?_) (fun hc => absurd rfl hc)
  exact aw_wide (by omega) (by omega) (next _ _ hI2)
def St_count (I : Hp → Nat → Prop) (x m N : Nat) : Prop := ∀ (h : Hp) (sz : Nat) (a1 : Int32), I h sz → ∃ (r : Int32) (h1 : Hp) (sz1 : Nat) (h2 : Hp), (fX5_count N h (some x) a1 = some r ∧ h1 = h ∧ sz1 = sz) ∧ isO h1 (some m) 6 = true ∧ (fX6_count N h1 (some m) a1 = some r ∧ h2 = h1) ∧ I h2 sz1
set_option maxHeartbeats 4000000 in
set_option maxRecDepth 100000 in
theorem law_count {Γ : GG} {b L : Nat} {xs : Nat → Int32} (Q : LC Γ b L xs) {I : Hp → Nat → Prop} {x m N : Nat} (S : St_count I x m N) {h : Hp} {sz k n j : Nat} (hI : I h sz) (hO : isO h (some x) 5 = true) (hj : j + 6 ≤ L) (hk : k + 7 ≤ 717199) (hn : n + 46 ≤ 6950652) (next : ∀ (h : Hp) (sz : Nat), I h sz → AW Γ 4 h sz (k + 7) (n + 46) 965 (lawv b x m j) []) : AW Γ 4 h sz k n 928 (lawv b x m j) [] := by
  have C := Q.1
  have hL := Q.2.2.2.2
  obtain ⟨r, h1, sz1, h2, e1, hO1, e2, hI2⟩ := S h sz (xs (nI j + (1 : Int32)).toNatClampNeg) hI
  obtain ⟨e1, rfl, rfl⟩ := e1
  obtain ⟨e2, rfl⟩ := e2
  refine aw_aload_n C dL_law_928 rfl (j := 1) rfl ?_
  refine aw_aload_n C dL_law_929 rfl (j := 0) rfl ?_
  refine aw_iload_n C dL_law_930 rfl (j := 3) rfl ?_
  refine aw_iconst (v := 1) C dL_law_931 (by decide) ?_
  refine aw_iadd C dL_law_932 ?_
  refine aw_sld Q (law_ix (q := 1) hj (by decide) hL) dL_law_933 ?_
  refine aw_callV (ci := 5) C mb_L_123 ⟨q_765, q_766, rfl⟩ hO (cX5_count_ _ _ _ _ e1) dL_law_934 rfl (rest := []) rfl (cat_le _ (Nat.le_of_ble_eq_true rfl)) (by decide) (by omega) (by omega) (st2 := [.int r]) rfl ?_
  refine aw_aload_n C dL_law_937 rfl (j := 2) rfl ?_
  refine aw_aload_n C dL_law_938 rfl (j := 0) rfl ?_
  refine aw_iload_n C dL_law_939 rfl (j := 3) rfl ?_
  refine aw_iconst (v := 1) C dL_law_940 (by decide) ?_
  refine aw_iadd C dL_law_941 ?_
  refine aw_sld Q (law_ix (q := 1) hj (by decide) hL) dL_law_942 ?_
  refine aw_callV (ci := 6) C mb_L_126 ⟨q_1130, q_1131, rfl⟩ hO1 (cX6_count_ _ _ _ _ e2) dL_law_943 rfl (rest := [.int r]) rfl (cat_le _ (Nat.le_of_ble_eq_true rfl)) (by decide) (by omega) (by omega) (st2 := [.int r, .int r]) rfl ?_
  refine aw_ic_eq (tgt := 965) C dL_law_946 (by decide) (fun hc => ?_) (fun hc => absurd rfl hc)
  exact aw_wide (by omega) (by omega) (next _ _ hI2)
def St_trace (I : Hp → Nat → Prop) (x m N : Nat) : Prop := ∀ (h : Hp) (sz : Nat), I h sz → ∃ (r : Int64) (h1 : Hp) (sz1 : Nat) (h2 : Hp), (fX5_trace N h (some x) = some r ∧ h1 = h ∧ sz1 = sz) ∧ isO h1 (some m) 6 = true ∧ (fX6_trace N h1 (some m) = some r ∧ h2 = h1) ∧ I h2 sz1
set_option maxHeartbeats 4000000 in
set_option maxRecDepth 100000 in
theorem law_trace {Γ : GG} {b L : Nat} {xs : Nat → Int32} (Q : LC Γ b L xs) {I : Hp → Nat → Prop} {x m N : Nat} (S : St_trace I x m N) {h : Hp} {sz k n j : Nat} (hI : I h sz) (hO : isO h (some x) 5 = true) (hj : j + 6 ≤ L) (hk : k + 7 ≤ 717199) (hn : n + 46 ≤ 6950652) (next : ∀ (h : Hp) (sz : Nat), I h sz → AW Γ 4 h sz (k + 7) (n + 46) 965 (lawv b x m j) []) : AW Γ 4 h sz k n 951 (lawv b x m j) [] := by
  have C := Q.1
  have hL := Q.2.2.2.2
  obtain ⟨r, h1, sz1, h2, e1, hO1, e2, hI2⟩ := S h sz  hI
  obtain ⟨e1, rfl, rfl⟩ := e1
  obtain ⟨e2, rfl⟩ := e2
  refine aw_aload_n C dL_law_951 rfl (j := 1) rfl ?_
  refine aw_callV (ci := 5) C mb_L_127 ⟨q_769, q_770, rfl⟩ hO (cX5_trace_ _ _ _ _ e1) dL_law_952 rfl (rest := []) rfl (cat_le _ (Nat.le_of_ble_eq_true rfl)) (by decide) (by omega) (by omega) (st2 := [.long r]) rfl ?_
  refine aw_aload_n C dL_law_955 rfl (j := 2) rfl ?_
  refine aw_callV (ci := 6) C mb_L_131 ⟨q_1134, q_1135, rfl⟩ hO1 (cX6_trace_ _ _ _ _ e2) dL_law_956 rfl (rest := [.long r]) rfl (cat_le _ (Nat.le_of_ble_eq_true rfl)) (by decide) (by omega) (by omega) (st2 := [.long r, .long r]) rfl ?_
  refine aw_lcmp C dL_law_959 ?_
  refine aw_if_eq (tgt := 965) C dL_law_960 (by decide) (fun hc => ?_) (fun hc => absurd (by simp [lg_cmp]) hc)
  exact aw_wide (by omega) (by omega) (next _ _ hI2)
def St_all (I : Hp → Nat → Prop) (x m N : Nat) : Prop := (∀ (h : Hp) (sz : Nat), I h sz → isO h (some x) 5 = true) ∧ St_type I x m N ∧ St_clear I x m N ∧ St_box I x m N ∧ St_ring I x m N ∧ St_wheel I x m N ∧ St_pen I x m N ∧ St_curve I x m N ∧ St_draws I x m N ∧ St_rubs I x m N ∧ St_spins I x m N ∧ St_fills I x m N ∧ St_undo I x m N ∧ St_now I x m N ∧ St_shown I x m N ∧ St_petals I x m N ∧ St_closes I x m N ∧ St_best I x m N ∧ St_meet I x m N ∧ St_odds I x m N ∧ St_sees I x m N ∧ St_forget I x m N ∧ St_guess I x m N ∧ St_look I x m N ∧ St_mark I x m N ∧ St_keep I x m N ∧ St_back I x m N ∧ St_count I x m N ∧ St_trace I x m N
theorem law_gt {L j : Nat} (h : L < j + 6) (hL : L ≤ 3072) (hj : j ≤ 3072) : nI L - 6 < nI j := by
  rw [Int32.lt_iff_toInt_lt]
  rw [show (6 : Int32) = nI 6 from rfl, pk_sub_toInt (by omega) (by omega), nI_toInt (by omega)]
  omega
set_option maxHeartbeats 4000000 in
set_option maxRecDepth 100000 in
theorem law_loop {p : Program} {l : Launch} {e : Env} {s : State} {mm : MethodId} {below : List Frame} {meth : Method} {c : Code} {D : va_G} {dA : Nat → ClassId} {b L : Nat} {xs : Nat → Int32} (Q : LC (p, l, e, room_1, s, mm, #[Value.ref b], below, meth, c, lw_Z below #[Value.ref b] s, D, dA, s.heap.size) b L xs) (hr : meth.sig.returnType = ret) {I : Hp → Nat → Prop} {x m N : Nat} (S : St_all I x m N) :
    ∀ (f j : Nat) (h : Hp) (sz k n : Nat), L < j + 6 * f → I h sz → k + 7 * f ≤ 717199 → n + 46 * f ≤ 6950652 → j ≤ 3072 → AW (p, l, e, room_1, s, mm, #[Value.ref b], below, meth, c, lw_Z below #[Value.ref b] s, D, dA, s.heap.size) 4 h sz k n 18 (lawv b x m j) [] := by
  intro f
  have C := Q.1
  have hL := Q.2.2.2.2
  induction f with
  | zero =>
    intro j h sz k n hf hI hk hn hj
    refine aw_iload_n C dL_law_18 rfl (j := 3) rfl ?_
    refine aw_aload_n C dL_law_19 rfl (j := 0) rfl ?_
    refine aw_slen Q dL_law_20 ?_
    refine aw_bipush (v := 6) C dL_law_21 (by decide) ?_
    refine aw_isub C dL_law_23 ?_
    refine aw_ic_gt (tgt := 971) C dL_law_24 (by decide) (fun hc => ?_) (fun hc => ?_)
    · refine aw_iconst (v := 1) C dL_law_971 (by decide) ?_
      intro H locs ls a0 b0 c0 d0
      refine W.widen (k := 717199) (n := 6950652) (by omega) (by omega) ?_
      exact va_forget c0.2.2 (lw_ret C.1 C.2.1 hr C.2.2.2.2.2.2.2.1 dL_law_972)
    · exact absurd (law_gt (by omega) hL hj) hc
  | succ f ih =>
    intro j h sz k n hf hI hk hn hj
    refine aw_iload_n C dL_law_18 rfl (j := 3) rfl ?_
    refine aw_aload_n C dL_law_19 rfl (j := 0) rfl ?_
    refine aw_slen Q dL_law_20 ?_
    refine aw_bipush (v := 6) C dL_law_21 (by decide) ?_
    refine aw_isub C dL_law_23 ?_
    refine aw_ic_gt (tgt := 971) C dL_law_24 (by decide) (fun hc => ?_) (fun hc => ?_)
    · refine aw_iconst (v := 1) C dL_law_971 (by decide) ?_
      intro H locs ls a0 b0 c0 d0
      refine W.widen (k := 717199) (n := 6950652) (by omega) (by omega) ?_
      exact va_forget c0.2.2 (lw_ret C.1 C.2.1 hr C.2.2.2.2.2.2.2.1 dL_law_972)
    · have hjL : j + 6 ≤ L := Nat.not_lt.mp (fun z => hc (law_gt z hL hj))
      have next : ∀ (h : Hp) (sz : Nat), I h sz → AW (p, l, e, room_1, s, mm, #[Value.ref b], below, meth, c, lw_Z below #[Value.ref b] s, D, dA, s.heap.size) 4 h sz (k + 7) (n + 46) 965 (lawv b x m j) [] := by
        intro h sz hI
        refine aw_iinc (y := 6) C dL_law_965 (by decide) (j := 3) rfl (by decide) rfl (lv' := lawv b x m (j + 6)) (by show lset (lawv b x m j) 3 (Sum.inl (nI j + nI 6)) = lawv b x m (j + 6); rw [nI_add]; rfl) ?_
        refine aw_goto (tgt := 18) C dL_law_968 (by decide) ?_
        exact ih (j + 6) h sz (k + 7) (n + 46) (by omega) hI (by omega) (by omega) (by omega)
      obtain ⟨hO, S0, S1, S2, S3, S4, S5, S6, S7, S8, S9, S10, S11, S12, S13, S14, S15, S16, S17, S18, S19, S20, S21, S22, S23, S24, S25, S26, S27⟩ := S
      have hO := hO h sz hI
      refine aw_aload_n C dL_law_27 rfl (j := 0) rfl ?_
      refine aw_iload_n C dL_law_28 rfl (j := 3) rfl ?_
      refine aw_sld Q (i := nI j) (vp_in_nI (by omega) (by omega)) dL_law_29 ?_
      refine aw_bipush (v := 31) C dL_law_30 (by decide) ?_
      refine aw_iand C dL_law_32 ?_
      generalize xs (nI j).toNatClampNeg &&& 31 = w
      by_cases c0 : w = 0
      · refine aw_tsIn (v := 0) (off := 127) (tgt := 160) C dL_law_33 c0 (by decide) (by decide) (by decide) (by decide) ?_
        exact law_type Q S0 hI hO hjL (by omega) (by omega) next
      by_cases c1 : w = 1
      · refine aw_tsIn (v := 1) (off := 150) (tgt := 183) C dL_law_33 c1 (by decide) (by decide) (by decide) (by decide) ?_
        exact law_clear Q S1 hI hO hjL (by omega) (by omega) next
      by_cases c2 : w = 2
      · refine aw_tsIn (v := 2) (off := 163) (tgt := 196) C dL_law_33 c2 (by decide) (by decide) (by decide) (by decide) ?_
        exact law_box Q S2 hI hO hjL (by omega) (by omega) next
      by_cases c3 : w = 3
      · refine aw_tsIn (v := 3) (off := 176) (tgt := 209) C dL_law_33 c3 (by decide) (by decide) (by decide) (by decide) ?_
        exact law_ring Q S3 hI hO hjL (by omega) (by omega) next
      by_cases c4 : w = 4
      · refine aw_tsIn (v := 4) (off := 199) (tgt := 232) C dL_law_33 c4 (by decide) (by decide) (by decide) (by decide) ?_
        exact law_wheel Q S4 hI hO hjL (by omega) (by omega) next
      by_cases c5 : w = 5
      · refine aw_tsIn (v := 5) (off := 242) (tgt := 275) C dL_law_33 c5 (by decide) (by decide) (by decide) (by decide) ?_
        exact law_pen Q S5 hI hO hjL (by omega) (by omega) next
      by_cases c6 : w = 6
      · refine aw_tsIn (v := 6) (off := 275) (tgt := 308) C dL_law_33 c6 (by decide) (by decide) (by decide) (by decide) ?_
        exact law_curve Q S6 hI hO hjL (by omega) (by omega) next
      by_cases c7 : w = 7
      · refine aw_tsIn (v := 7) (off := 308) (tgt := 341) C dL_law_33 c7 (by decide) (by decide) (by decide) (by decide) ?_
        exact law_draws Q S7 hI hO hjL (by omega) (by omega) next
      by_cases c8 : w = 8
      · refine aw_tsIn (v := 8) (off := 371) (tgt := 404) C dL_law_33 c8 (by decide) (by decide) (by decide) (by decide) ?_
        exact law_rubs Q S8 hI hO hjL (by omega) (by omega) next
      by_cases c9 : w = 9
      · refine aw_tsIn (v := 9) (off := 394) (tgt := 427) C dL_law_33 c9 (by decide) (by decide) (by decide) (by decide) ?_
        exact law_spins Q S9 hI hO hjL (by omega) (by omega) next
      by_cases c10 : w = 10
      · refine aw_tsIn (v := 10) (off := 417) (tgt := 450) C dL_law_33 c10 (by decide) (by decide) (by decide) (by decide) ?_
        exact law_fills Q S10 hI hO hjL (by omega) (by omega) next
      by_cases c11 : w = 11
      · refine aw_tsIn (v := 11) (off := 450) (tgt := 483) C dL_law_33 c11 (by decide) (by decide) (by decide) (by decide) ?_
        exact law_undo Q S11 hI hO hjL (by omega) (by omega) next
      by_cases c12 : w = 12
      · refine aw_tsIn (v := 12) (off := 463) (tgt := 496) C dL_law_33 c12 (by decide) (by decide) (by decide) (by decide) ?_
        exact law_now Q S12 hI hO hjL (by omega) (by omega) next
      by_cases c13 : w = 13
      · refine aw_tsIn (v := 13) (off := 486) (tgt := 519) C dL_law_33 c13 (by decide) (by decide) (by decide) (by decide) ?_
        exact law_shown Q S13 hI hO hjL (by omega) (by omega) next
      by_cases c14 : w = 14
      · refine aw_tsIn (v := 14) (off := 519) (tgt := 552) C dL_law_33 c14 (by decide) (by decide) (by decide) (by decide) ?_
        exact law_petals Q S14 hI hO hjL (by omega) (by omega) next
      by_cases c15 : w = 15
      · refine aw_tsIn (v := 15) (off := 552) (tgt := 585) C dL_law_33 c15 (by decide) (by decide) (by decide) (by decide) ?_
        exact law_closes Q S15 hI hO hjL (by omega) (by omega) next
      by_cases c16 : w = 16
      · refine aw_tsIn (v := 16) (off := 595) (tgt := 628) C dL_law_33 c16 (by decide) (by decide) (by decide) (by decide) ?_
        exact law_best Q S16 hI hO hjL (by omega) (by omega) next
      by_cases c17 : w = 17
      · refine aw_tsIn (v := 17) (off := 628) (tgt := 661) C dL_law_33 c17 (by decide) (by decide) (by decide) (by decide) ?_
        exact law_meet Q S17 hI hO hjL (by omega) (by omega) next
      by_cases c18 : w = 18
      · refine aw_tsIn (v := 18) (off := 661) (tgt := 694) C dL_law_33 c18 (by decide) (by decide) (by decide) (by decide) ?_
        exact law_odds Q S18 hI hO hjL (by omega) (by omega) next
      by_cases c19 : w = 19
      · refine aw_tsIn (v := 19) (off := 714) (tgt := 747) C dL_law_33 c19 (by decide) (by decide) (by decide) (by decide) ?_
        exact law_sees Q S19 hI hO hjL (by omega) (by omega) next
      by_cases c20 : w = 20
      · refine aw_tsIn (v := 20) (off := 747) (tgt := 780) C dL_law_33 c20 (by decide) (by decide) (by decide) (by decide) ?_
        exact law_forget Q S20 hI hO hjL (by omega) (by omega) next
      by_cases c21 : w = 21
      · refine aw_tsIn (v := 21) (off := 760) (tgt := 793) C dL_law_33 c21 (by decide) (by decide) (by decide) (by decide) ?_
        exact law_guess Q S21 hI hO hjL (by omega) (by omega) next
      by_cases c22 : w = 22
      · refine aw_tsIn (v := 22) (off := 793) (tgt := 826) C dL_law_33 c22 (by decide) (by decide) (by decide) (by decide) ?_
        exact law_look Q S22 hI hO hjL (by omega) (by omega) next
      by_cases c23 : w = 23
      · refine aw_tsIn (v := 23) (off := 816) (tgt := 849) C dL_law_33 c23 (by decide) (by decide) (by decide) (by decide) ?_
        exact law_mark Q S23 hI hO hjL (by omega) (by omega) next
      by_cases c24 : w = 24
      · refine aw_tsIn (v := 24) (off := 849) (tgt := 882) C dL_law_33 c24 (by decide) (by decide) (by decide) (by decide) ?_
        exact law_keep Q S24 hI hO hjL (by omega) (by omega) next
      by_cases c25 : w = 25
      · refine aw_tsIn (v := 25) (off := 872) (tgt := 905) C dL_law_33 c25 (by decide) (by decide) (by decide) (by decide) ?_
        exact law_back Q S25 hI hO hjL (by omega) (by omega) next
      by_cases c26 : w = 26
      · refine aw_tsIn (v := 26) (off := 895) (tgt := 928) C dL_law_33 c26 (by decide) (by decide) (by decide) (by decide) ?_
        exact law_count Q S26 hI hO hjL (by omega) (by omega) next
      by_cases c27 : w = 27
      · refine aw_tsIn (v := 27) (off := 918) (tgt := 951) C dL_law_33 c27 (by decide) (by decide) (by decide) (by decide) ?_
        exact law_trace Q S27 hI hO hjL (by omega) (by omega) next
      refine aw_tsOut (tgt := 965) C dL_law_33 (by have e0 := lv_neT c0 (by decide : (0 : Int32).toInt = 0); have e1 := lv_neT c1 (by decide : (1 : Int32).toInt = 1); have e2 := lv_neT c2 (by decide : (2 : Int32).toInt = 2); have e3 := lv_neT c3 (by decide : (3 : Int32).toInt = 3); have e4 := lv_neT c4 (by decide : (4 : Int32).toInt = 4); have e5 := lv_neT c5 (by decide : (5 : Int32).toInt = 5); have e6 := lv_neT c6 (by decide : (6 : Int32).toInt = 6); have e7 := lv_neT c7 (by decide : (7 : Int32).toInt = 7); have e8 := lv_neT c8 (by decide : (8 : Int32).toInt = 8); have e9 := lv_neT c9 (by decide : (9 : Int32).toInt = 9); have e10 := lv_neT c10 (by decide : (10 : Int32).toInt = 10); have e11 := lv_neT c11 (by decide : (11 : Int32).toInt = 11); have e12 := lv_neT c12 (by decide : (12 : Int32).toInt = 12); have e13 := lv_neT c13 (by decide : (13 : Int32).toInt = 13); have e14 := lv_neT c14 (by decide : (14 : Int32).toInt = 14); have e15 := lv_neT c15 (by decide : (15 : Int32).toInt = 15); have e16 := lv_neT c16 (by decide : (16 : Int32).toInt = 16); have e17 := lv_neT c17 (by decide : (17 : Int32).toInt = 17); have e18 := lv_neT c18 (by decide : (18 : Int32).toInt = 18); have e19 := lv_neT c19 (by decide : (19 : Int32).toInt = 19); have e20 := lv_neT c20 (by decide : (20 : Int32).toInt = 20); have e21 := lv_neT c21 (by decide : (21 : Int32).toInt = 21); have e22 := lv_neT c22 (by decide : (22 : Int32).toInt = 22); have e23 := lv_neT c23 (by decide : (23 : Int32).toInt = 23); have e24 := lv_neT c24 (by decide : (24 : Int32).toInt = 24); have e25 := lv_neT c25 (by decide : (25 : Int32).toInt = 25); have e26 := lv_neT c26 (by decide : (26 : Int32).toInt = 26); have e27 := lv_neT c27 (by decide : (27 : Int32).toInt = 27);  omega) (by decide) ?_
      exact aw_wide (by omega) (by omega) (next _ _ hI)
