/-! THE LAW'S CASES, by program (lawgen.py) -/
section LCASES
variable {p : Program} {l : Launch} {e : Env} {s : State} {m : MethodId} {below : List Frame} {meth : Method} {c : Code} {Q : State → Prop} {G : GG} {b L : Nat} {xs : Nat → Int32}
set_option maxHeartbeats 4000000 in
set_option maxRecDepth 100000 in
theorem law_build (h0 : LC p l s m meth c G b L xs) (hL : L ≤ 2048) {t : Nat} (ht : 4 * t + 4 ≤ L) {D E g S A : DD} {z : Int64} (hJ : JJ (100 * t) D g S) (hK : LK p l e s m below meth c Q G b t (124 + 280 * t + 280) (1425 + 3000 * t + 3000)) : Jd p l e room_1 s m #[Value.ref b] below meth c Q G 9 (124 + 280 * t) (1425 + 3000 * t) (mk5 D E g S A) (z, []) 128 (lvL G b t) [] := by
  obtain ⟨hC, hN, hlt, hX, hbl, hbA⟩ := h0
  have hJ0 := JJ_set hJ 0
  obtain ⟨p1, hp1⟩ : ∃ x, xs (ix (nI (4 * t + 1))) = x := ⟨_, rfl⟩
  obtain ⟨p2, hp2⟩ : ∃ x, xs (ix (nI (4 * t + 2))) = x := ⟨_, rfl⟩
  obtain ⟨e1, e2, e3⟩ := go_build (JJ_set hJ 0) rfl p1 p2
  refine J_aload_n hC (j := 3) dL_law_128 rfl rfl ?_
  refine J_aload_n hC (j := 4) dL_law_129 rfl rfl ?_
  refine J_iload hC (j := 0) dL_law_130 rfl ?_
  refine J_iconst (v := 1) hC dL_law_132 (by decide) ?_
  refine J_iadd hC dL_law_133 ?_
  refine J_top (y := nI (4 * t + 1)) (nI_k1 _) ?_
  refine J_sld hC hX hbl hbA (vp_nI (by omega) (by omega)) hp1 dL_law_134 ?_
  refine J_aload_n hC (j := 4) dL_law_135 rfl rfl ?_
  refine J_iload hC (j := 0) dL_law_136 rfl ?_
  refine J_iconst (v := 2) hC dL_law_138 (by decide) ?_
  refine J_iadd hC dL_law_139 ?_
  refine J_top (y := nI (4 * t + 2)) (nI_k2 _) ?_
  refine J_sld hC hX hbl hbA (vp_nI (by omega) (by omega)) hp2 dL_law_140 ?_
  refine J_aload_n hC (j := 1) dL_law_141 rfl rfl ?_
  refine J_callW hC hN (wt_build l hlt G D E g S A (z, []) p1 p2) qw_284 qw_27 qw_285 (n := 4) (by decide +kernel) qw_283 rfl rfl (Nat.le_of_ble_eq_true rfl) ⟨Nat.le_of_ble_eq_true rfl, Nat.le_of_ble_eq_true rfl⟩ ⟨by show (124 + 280 * t) + 1 ≤ 601024; omega, by show (1425 + 3000 * t) + 6 ≤ 7293034; omega⟩ dL_law_142 ?_
  refine J_X ifD ?_
  generalize hD1 : (if kBuild D p1 p2 = 0 then (addC D p1 p2) else D) = D1 at e3 ⊢
  refine J_o ifO ?_
  generalize hz : (if kBuild D p1 p2 = 0 then (((D 40 2)).toInt64) else z) = z1
  refine J_istore (lv' := [(5, .int (kBuild D p1 p2)), (4, .int (nI (4 * t))), (3, .ref (gA G 123)), (2, .ref (aX G 2 0)), (1, .ref (gA G 88)), (0, .ref b)]) hC dL_law_145 (by decide) rfl ?_
  refine J_aload_n hC (j := 3) dL_law_147 rfl rfl ?_
  refine J_aload_n hC (j := 5) dL_law_148 rfl rfl ?_
  refine J_iload hC (j := 1) dL_law_149 rfl ?_
  refine J_iconst (v := 1) hC dL_law_151 (by decide) ?_
  refine J_iadd hC dL_law_152 ?_
  refine J_top (y := nI (4 * t + 1)) (nI_k1 _) ?_
  refine J_sld hC hX hbl hbA (vp_nI (by omega) (by omega)) hp1 dL_law_153 ?_
  refine J_aload_n hC (j := 5) dL_law_154 rfl rfl ?_
  refine J_iload hC (j := 1) dL_law_155 rfl ?_
  refine J_iconst (v := 2) hC dL_law_157 (by decide) ?_
  refine J_iadd hC dL_law_158 ?_
  refine J_top (y := nI (4 * t + 2)) (nI_k2 _) ?_
  refine J_sld hC hX hbl hbA (vp_nI (by omega) (by omega)) hp2 dL_law_159 ?_
  refine J_callV hC (ct_X6_build l G D1 E g S A (z1, []) p1 p2 (JJ_g2 hJ0)) mw_X6_build qw_778 nl_m0 ent_m0 rfl rfl rfl (Nat.le_of_ble_eq_true rfl) ⟨Nat.le_of_ble_eq_true rfl, Nat.le_of_ble_eq_true rfl⟩ ⟨by show ((124 + 280 * t) + 1) + 0 ≤ 601024; omega, by show ((1425 + 3000 * t) + 6) + 0 ≤ 7293034; omega⟩ dL_law_160 ?_
  refine J_istore (lv' := [(6, .int ((vBuildM (setT g 0) p1 p2))), (5, .int (kBuild D p1 p2)), (4, .int (nI (4 * t))), (3, .ref (gA G 123)), (2, .ref (aX G 2 0)), (1, .ref (gA G 88)), (0, .ref b)]) hC dL_law_163 (by decide) rfl ?_
  refine J_aload_n hC (j := 4) dL_law_165 rfl rfl ?_
  refine J_callV hC (ct_X6_thrown l G D1 E (mBuild2 (setT g 0) p1 p2) S A (z1, [])) mw_X6_thrown qw_774 nl_m0 ent_m0 rfl rfl rfl (Nat.le_of_ble_eq_true rfl) ⟨Nat.le_of_ble_eq_true rfl, Nat.le_of_ble_eq_true rfl⟩ ⟨by show (((124 + 280 * t) + 1) + 0) + 0 ≤ 601024; omega, by show (((1425 + 3000 * t) + 6) + 0) + 0 ≤ 7293034; omega⟩ dL_law_166 ?_
  refine J_iload hC (j := 1) dL_law_169 rfl ?_
  refine J_icmp_eq (tgt := 176) hC dL_law_171 (by decide) (fun _ => ?_) (fun h => absurd e1.symm h)
  refine J_iload hC (j := 1) dL_law_176 rfl ?_
  refine J_if_ne (tgt := 193) hC dL_law_178 (by decide) (fun _ => ?_) (fun hk => ?_)
  · refine J_goto (tgt := 1327) hC dL_law_193 (by decide) ?_
    refine J_lv [2, 3, 4, 5, 6] (lv' := lvL G b t) rfl ?_
    refine J_widen (k := 124 + 280 * t + 280) (n := 1425 + 3000 * t + 3000) (by omega) (by omega) ?_
    exact hK D1 E (mBuild2 (setT g 0) p1 p2) S A z1 e3
  · refine J_aload_n hC (j := 3) dL_law_181 rfl rfl ?_
    refine J_iconst (v := 0) hC dL_law_182 (by decide) ?_
    refine J_lald hC (by unfold vp_in; decide) dL_law_183 ?_
    refine J_iload hC (j := 0) dL_law_184 rfl ?_
    refine J_i2l hC dL_law_186 ?_
    refine J_lcmp hC dL_law_187 ?_
    refine J_if_eq (tgt := 193) hC dL_law_188 (by decide) (fun _ => ?_) (fun h => absurd (lgc_self (by rw [← hz, if_pos hk, e2 hk])) h)
    refine J_goto (tgt := 1327) hC dL_law_193 (by decide) ?_
    refine J_lv [2, 3, 4, 5, 6] (lv' := lvL G b t) rfl ?_
    refine J_widen (k := 124 + 280 * t + 280) (n := 1425 + 3000 * t + 3000) (by omega) (by omega) ?_
    exact hK D1 E (mBuild2 (setT g 0) p1 p2) S A z1 e3
set_option maxHeartbeats 4000000 in
set_option maxRecDepth 100000 in
theorem law_air (h0 : LC p l s m meth c G b L xs) (hL : L ≤ 2048) {t : Nat} (ht : 4 * t + 4 ≤ L) {D E g S A : DD} {z : Int64} (hJ : JJ (100 * t) D g S) (hK : LK p l e s m below meth c Q G b t (124 + 280 * t + 280) (1425 + 3000 * t + 3000)) : Jd p l e room_1 s m #[Value.ref b] below meth c Q G 9 (124 + 280 * t) (1425 + 3000 * t) (mk5 D E g S A) (z, []) 196 (lvL G b t) [] := by
  obtain ⟨hC, hN, hlt, hX, hbl, hbA⟩ := h0
  have hJ0 := JJ_set hJ 0
  obtain ⟨p1, hp1⟩ : ∃ x, xs (ix (nI (4 * t + 1))) = x := ⟨_, rfl⟩
  obtain ⟨p2, hp2⟩ : ∃ x, xs (ix (nI (4 * t + 2))) = x := ⟨_, rfl⟩
  obtain ⟨p3, hp3⟩ : ∃ x, xs (ix (nI (4 * t + 3))) = x := ⟨_, rfl⟩
  obtain ⟨e1, e2, e3⟩ := go_air (JJ_set hJ 0) rfl p1 p2 p3
  refine J_aload_n hC (j := 3) dL_law_196 rfl rfl ?_
  refine J_aload_n hC (j := 4) dL_law_197 rfl rfl ?_
  refine J_iload hC (j := 0) dL_law_198 rfl ?_
  refine J_iconst (v := 1) hC dL_law_200 (by decide) ?_
  refine J_iadd hC dL_law_201 ?_
  refine J_top (y := nI (4 * t + 1)) (nI_k1 _) ?_
  refine J_sld hC hX hbl hbA (vp_nI (by omega) (by omega)) hp1 dL_law_202 ?_
  refine J_aload_n hC (j := 4) dL_law_203 rfl rfl ?_
  refine J_iload hC (j := 0) dL_law_204 rfl ?_
  refine J_iconst (v := 2) hC dL_law_206 (by decide) ?_
  refine J_iadd hC dL_law_207 ?_
  refine J_top (y := nI (4 * t + 2)) (nI_k2 _) ?_
  refine J_sld hC hX hbl hbA (vp_nI (by omega) (by omega)) hp2 dL_law_208 ?_
  refine J_aload_n hC (j := 4) dL_law_209 rfl rfl ?_
  refine J_iload hC (j := 0) dL_law_210 rfl ?_
  refine J_iconst (v := 3) hC dL_law_212 (by decide) ?_
  refine J_iadd hC dL_law_213 ?_
  refine J_top (y := nI (4 * t + 3)) (nI_k3 _) ?_
  refine J_sld hC hX hbl hbA (vp_nI (by omega) (by omega)) hp3 dL_law_214 ?_
  refine J_aload_n hC (j := 1) dL_law_215 rfl rfl ?_
  refine J_callW hC hN (wt_air l hlt G D E g S A (z, []) p1 p2 p3) qw_384 qw_27 qw_385 (n := 5) (by decide +kernel) qw_383 rfl rfl (Nat.le_of_ble_eq_true rfl) ⟨Nat.le_of_ble_eq_true rfl, Nat.le_of_ble_eq_true rfl⟩ ⟨by show (124 + 280 * t) + 1 ≤ 601024; omega, by show (1425 + 3000 * t) + 6 ≤ 7293034; omega⟩ dL_law_216 ?_
  refine J_X ifD ?_
  generalize hD1 : (if kAir D p1 p2 p3 = 0 then (dAir D p1 p2 p3) else D) = D1 at e3 ⊢
  refine J_o ifO ?_
  generalize hz : (if kAir D p1 p2 p3 = 0 then (((vAir D p1)).toInt64) else z) = z1
  refine J_istore (lv' := [(5, .int (kAir D p1 p2 p3)), (4, .int (nI (4 * t))), (3, .ref (gA G 123)), (2, .ref (aX G 2 0)), (1, .ref (gA G 88)), (0, .ref b)]) hC dL_law_219 (by decide) rfl ?_
  refine J_aload_n hC (j := 3) dL_law_221 rfl rfl ?_
  refine J_aload_n hC (j := 5) dL_law_222 rfl rfl ?_
  refine J_iload hC (j := 1) dL_law_223 rfl ?_
  refine J_iconst (v := 1) hC dL_law_225 (by decide) ?_
  refine J_iadd hC dL_law_226 ?_
  refine J_top (y := nI (4 * t + 1)) (nI_k1 _) ?_
  refine J_sld hC hX hbl hbA (vp_nI (by omega) (by omega)) hp1 dL_law_227 ?_
  refine J_aload_n hC (j := 5) dL_law_228 rfl rfl ?_
  refine J_iload hC (j := 1) dL_law_229 rfl ?_
  refine J_iconst (v := 2) hC dL_law_231 (by decide) ?_
  refine J_iadd hC dL_law_232 ?_
  refine J_top (y := nI (4 * t + 2)) (nI_k2 _) ?_
  refine J_sld hC hX hbl hbA (vp_nI (by omega) (by omega)) hp2 dL_law_233 ?_
  refine J_aload_n hC (j := 5) dL_law_234 rfl rfl ?_
  refine J_iload hC (j := 1) dL_law_235 rfl ?_
  refine J_iconst (v := 3) hC dL_law_237 (by decide) ?_
  refine J_iadd hC dL_law_238 ?_
  refine J_top (y := nI (4 * t + 3)) (nI_k3 _) ?_
  refine J_sld hC hX hbl hbA (vp_nI (by omega) (by omega)) hp3 dL_law_239 ?_
  refine J_callV hC (ct_X6_air l G D1 E g S A (z1, []) p1 p2 p3 (JJ_g2 hJ0)) mw_X6_air qw_792 nl_m0 ent_m0 rfl rfl rfl (Nat.le_of_ble_eq_true rfl) ⟨Nat.le_of_ble_eq_true rfl, Nat.le_of_ble_eq_true rfl⟩ ⟨by show ((124 + 280 * t) + 1) + 0 ≤ 601024; omega, by show ((1425 + 3000 * t) + 6) + 0 ≤ 7293034; omega⟩ dL_law_240 ?_
  refine J_istore (lv' := [(6, .int ((vAirM (setT g 0) p1 p2 p3))), (5, .int (kAir D p1 p2 p3)), (4, .int (nI (4 * t))), (3, .ref (gA G 123)), (2, .ref (aX G 2 0)), (1, .ref (gA G 88)), (0, .ref b)]) hC dL_law_243 (by decide) rfl ?_
  refine J_aload_n hC (j := 4) dL_law_245 rfl rfl ?_
  refine J_callV hC (ct_X6_thrown l G D1 E (mAir (setT g 0) p1 p2 p3) S A (z1, [])) mw_X6_thrown qw_774 nl_m0 ent_m0 rfl rfl rfl (Nat.le_of_ble_eq_true rfl) ⟨Nat.le_of_ble_eq_true rfl, Nat.le_of_ble_eq_true rfl⟩ ⟨by show (((124 + 280 * t) + 1) + 0) + 0 ≤ 601024; omega, by show (((1425 + 3000 * t) + 6) + 0) + 0 ≤ 7293034; omega⟩ dL_law_246 ?_
  refine J_iload hC (j := 1) dL_law_249 rfl ?_
  refine J_icmp_eq (tgt := 256) hC dL_law_251 (by decide) (fun _ => ?_) (fun h => absurd e1.symm h)
  refine J_iload hC (j := 1) dL_law_256 rfl ?_
  refine J_if_ne (tgt := 273) hC dL_law_258 (by decide) (fun _ => ?_) (fun hk => ?_)
  · refine J_goto (tgt := 1327) hC dL_law_273 (by decide) ?_
    refine J_lv [2, 3, 4, 5, 6] (lv' := lvL G b t) rfl ?_
    refine J_widen (k := 124 + 280 * t + 280) (n := 1425 + 3000 * t + 3000) (by omega) (by omega) ?_
    exact hK D1 E (mAir (setT g 0) p1 p2 p3) S A z1 e3
  · refine J_aload_n hC (j := 3) dL_law_261 rfl rfl ?_
    refine J_iconst (v := 0) hC dL_law_262 (by decide) ?_
    refine J_lald hC (by unfold vp_in; decide) dL_law_263 ?_
    refine J_iload hC (j := 0) dL_law_264 rfl ?_
    refine J_i2l hC dL_law_266 ?_
    refine J_lcmp hC dL_law_267 ?_
    refine J_if_eq (tgt := 273) hC dL_law_268 (by decide) (fun _ => ?_) (fun h => absurd (lgc_self (by rw [← hz, if_pos hk, e2 hk])) h)
    refine J_goto (tgt := 1327) hC dL_law_273 (by decide) ?_
    refine J_lv [2, 3, 4, 5, 6] (lv' := lvL G b t) rfl ?_
    refine J_widen (k := 124 + 280 * t + 280) (n := 1425 + 3000 * t + 3000) (by omega) (by omega) ?_
    exact hK D1 E (mAir (setT g 0) p1 p2 p3) S A z1 e3
set_option maxHeartbeats 4000000 in
set_option maxRecDepth 100000 in
theorem law_make (h0 : LC p l s m meth c G b L xs) (hL : L ≤ 2048) {t : Nat} (ht : 4 * t + 4 ≤ L) {D E g S A : DD} {z : Int64} (hJ : JJ (100 * t) D g S) (hK : LK p l e s m below meth c Q G b t (124 + 280 * t + 280) (1425 + 3000 * t + 3000)) : Jd p l e room_1 s m #[Value.ref b] below meth c Q G 9 (124 + 280 * t) (1425 + 3000 * t) (mk5 D E g S A) (z, []) 276 (lvL G b t) [] := by
  obtain ⟨hC, hN, hlt, hX, hbl, hbA⟩ := h0
  have hJ0 := JJ_set hJ 0
  obtain ⟨p1, hp1⟩ : ∃ x, xs (ix (nI (4 * t + 1))) = x := ⟨_, rfl⟩
  obtain ⟨p2, hp2⟩ : ∃ x, xs (ix (nI (4 * t + 2))) = x := ⟨_, rfl⟩
  obtain ⟨e1, e2, e3⟩ := go_make (JJ_set hJ 0) rfl p1 p2
  refine J_aload_n hC (j := 3) dL_law_276 rfl rfl ?_
  refine J_aload_n hC (j := 4) dL_law_277 rfl rfl ?_
  refine J_iload hC (j := 0) dL_law_278 rfl ?_
  refine J_iconst (v := 1) hC dL_law_280 (by decide) ?_
  refine J_iadd hC dL_law_281 ?_
  refine J_top (y := nI (4 * t + 1)) (nI_k1 _) ?_
  refine J_sld hC hX hbl hbA (vp_nI (by omega) (by omega)) hp1 dL_law_282 ?_
  refine J_aload_n hC (j := 4) dL_law_283 rfl rfl ?_
  refine J_iload hC (j := 0) dL_law_284 rfl ?_
  refine J_iconst (v := 2) hC dL_law_286 (by decide) ?_
  refine J_iadd hC dL_law_287 ?_
  refine J_top (y := nI (4 * t + 2)) (nI_k2 _) ?_
  refine J_sld hC hX hbl hbA (vp_nI (by omega) (by omega)) hp2 dL_law_288 ?_
  refine J_aload_n hC (j := 1) dL_law_289 rfl rfl ?_
  refine J_callW hC hN (wt_make l hlt G D E g S A (z, []) p1 p2) qw_409 qw_27 qw_410 (n := 4) (by decide +kernel) qw_408 rfl rfl (Nat.le_of_ble_eq_true rfl) ⟨Nat.le_of_ble_eq_true rfl, Nat.le_of_ble_eq_true rfl⟩ ⟨by show (124 + 280 * t) + 1 ≤ 601024; omega, by show (1425 + 3000 * t) + 6 ≤ 7293034; omega⟩ dL_law_290 ?_
  refine J_X ifD ?_
  generalize hD1 : (if kMake D p1 p2 = 0 then (addW D p1 p2) else D) = D1 at e3 ⊢
  refine J_o ifO ?_
  generalize hz : (if kMake D p1 p2 = 0 then (((D 40 3)).toInt64) else z) = z1
  refine J_istore (lv' := [(5, .int (kMake D p1 p2)), (4, .int (nI (4 * t))), (3, .ref (gA G 123)), (2, .ref (aX G 2 0)), (1, .ref (gA G 88)), (0, .ref b)]) hC dL_law_293 (by decide) rfl ?_
  refine J_aload_n hC (j := 3) dL_law_295 rfl rfl ?_
  refine J_aload_n hC (j := 5) dL_law_296 rfl rfl ?_
  refine J_iload hC (j := 1) dL_law_297 rfl ?_
  refine J_iconst (v := 1) hC dL_law_299 (by decide) ?_
  refine J_iadd hC dL_law_300 ?_
  refine J_top (y := nI (4 * t + 1)) (nI_k1 _) ?_
  refine J_sld hC hX hbl hbA (vp_nI (by omega) (by omega)) hp1 dL_law_301 ?_
  refine J_aload_n hC (j := 5) dL_law_302 rfl rfl ?_
  refine J_iload hC (j := 1) dL_law_303 rfl ?_
  refine J_iconst (v := 2) hC dL_law_305 (by decide) ?_
  refine J_iadd hC dL_law_306 ?_
  refine J_top (y := nI (4 * t + 2)) (nI_k2 _) ?_
  refine J_sld hC hX hbl hbA (vp_nI (by omega) (by omega)) hp2 dL_law_307 ?_
  refine J_callV hC (ct_X6_make l G D1 E g S A (z1, []) p1 p2 (JJ_g2 hJ0)) mw_X6_make qw_800 nl_m0 ent_m0 rfl rfl rfl (Nat.le_of_ble_eq_true rfl) ⟨Nat.le_of_ble_eq_true rfl, Nat.le_of_ble_eq_true rfl⟩ ⟨by show ((124 + 280 * t) + 1) + 0 ≤ 601024; omega, by show ((1425 + 3000 * t) + 6) + 0 ≤ 7293034; omega⟩ dL_law_308 ?_
  refine J_istore (lv' := [(6, .int ((vMakeM (setT g 0) S p1 p2))), (5, .int (kMake D p1 p2)), (4, .int (nI (4 * t))), (3, .ref (gA G 123)), (2, .ref (aX G 2 0)), (1, .ref (gA G 88)), (0, .ref b)]) hC dL_law_311 (by decide) rfl ?_
  refine J_aload_n hC (j := 4) dL_law_313 rfl rfl ?_
  refine J_callV hC (ct_X6_thrown l G D1 E (mMake (setT g 0) S p1 p2) (sMake (setT g 0) S p1 p2) A (z1, [])) mw_X6_thrown qw_774 nl_m0 ent_m0 rfl rfl rfl (Nat.le_of_ble_eq_true rfl) ⟨Nat.le_of_ble_eq_true rfl, Nat.le_of_ble_eq_true rfl⟩ ⟨by show (((124 + 280 * t) + 1) + 0) + 0 ≤ 601024; omega, by show (((1425 + 3000 * t) + 6) + 0) + 0 ≤ 7293034; omega⟩ dL_law_314 ?_
  refine J_iload hC (j := 1) dL_law_317 rfl ?_
  refine J_icmp_eq (tgt := 324) hC dL_law_319 (by decide) (fun _ => ?_) (fun h => absurd e1.symm h)
  refine J_iload hC (j := 1) dL_law_324 rfl ?_
  refine J_if_ne (tgt := 341) hC dL_law_326 (by decide) (fun _ => ?_) (fun hk => ?_)
  · refine J_goto (tgt := 1327) hC dL_law_341 (by decide) ?_
    refine J_lv [2, 3, 4, 5, 6] (lv' := lvL G b t) rfl ?_
    refine J_widen (k := 124 + 280 * t + 280) (n := 1425 + 3000 * t + 3000) (by omega) (by omega) ?_
    exact hK D1 E (mMake (setT g 0) S p1 p2) (sMake (setT g 0) S p1 p2) A z1 e3
  · refine J_aload_n hC (j := 3) dL_law_329 rfl rfl ?_
    refine J_iconst (v := 0) hC dL_law_330 (by decide) ?_
    refine J_lald hC (by unfold vp_in; decide) dL_law_331 ?_
    refine J_iload hC (j := 0) dL_law_332 rfl ?_
    refine J_i2l hC dL_law_334 ?_
    refine J_lcmp hC dL_law_335 ?_
    refine J_if_eq (tgt := 341) hC dL_law_336 (by decide) (fun _ => ?_) (fun h => absurd (lgc_self (by rw [← hz, if_pos hk, e2 hk])) h)
    refine J_goto (tgt := 1327) hC dL_law_341 (by decide) ?_
    refine J_lv [2, 3, 4, 5, 6] (lv' := lvL G b t) rfl ?_
    refine J_widen (k := 124 + 280 * t + 280) (n := 1425 + 3000 * t + 3000) (by omega) (by omega) ?_
    exact hK D1 E (mMake (setT g 0) S p1 p2) (sMake (setT g 0) S p1 p2) A z1 e3
set_option maxHeartbeats 4000000 in
set_option maxRecDepth 100000 in
theorem law_carry (h0 : LC p l s m meth c G b L xs) (hL : L ≤ 2048) {t : Nat} (ht : 4 * t + 4 ≤ L) {D E g S A : DD} {z : Int64} (hJ : JJ (100 * t) D g S) (hK : LK p l e s m below meth c Q G b t (124 + 280 * t + 280) (1425 + 3000 * t + 3000)) : Jd p l e room_1 s m #[Value.ref b] below meth c Q G 9 (124 + 280 * t) (1425 + 3000 * t) (mk5 D E g S A) (z, []) 344 (lvL G b t) [] := by
  obtain ⟨hC, hN, hlt, hX, hbl, hbA⟩ := h0
  have hJ0 := JJ_set hJ 0
  obtain ⟨p1, hp1⟩ : ∃ x, xs (ix (nI (4 * t + 1))) = x := ⟨_, rfl⟩
  obtain ⟨p2, hp2⟩ : ∃ x, xs (ix (nI (4 * t + 2))) = x := ⟨_, rfl⟩
  obtain ⟨p3, hp3⟩ : ∃ x, xs (ix (nI (4 * t + 3))) = x := ⟨_, rfl⟩
  obtain ⟨e1, e2, e3⟩ := go_carry (JJ_set hJ 0) rfl p1 p2 p3
  refine J_aload_n hC (j := 3) dL_law_344 rfl rfl ?_
  refine J_aload_n hC (j := 4) dL_law_345 rfl rfl ?_
  refine J_iload hC (j := 0) dL_law_346 rfl ?_
  refine J_iconst (v := 1) hC dL_law_348 (by decide) ?_
  refine J_iadd hC dL_law_349 ?_
  refine J_top (y := nI (4 * t + 1)) (nI_k1 _) ?_
  refine J_sld hC hX hbl hbA (vp_nI (by omega) (by omega)) hp1 dL_law_350 ?_
  refine J_aload_n hC (j := 4) dL_law_351 rfl rfl ?_
  refine J_iload hC (j := 0) dL_law_352 rfl ?_
  refine J_iconst (v := 2) hC dL_law_354 (by decide) ?_
  refine J_iadd hC dL_law_355 ?_
  refine J_top (y := nI (4 * t + 2)) (nI_k2 _) ?_
  refine J_sld hC hX hbl hbA (vp_nI (by omega) (by omega)) hp2 dL_law_356 ?_
  refine J_aload_n hC (j := 4) dL_law_357 rfl rfl ?_
  refine J_iload hC (j := 0) dL_law_358 rfl ?_
  refine J_iconst (v := 3) hC dL_law_360 (by decide) ?_
  refine J_iadd hC dL_law_361 ?_
  refine J_top (y := nI (4 * t + 3)) (nI_k3 _) ?_
  refine J_sld hC hX hbl hbA (vp_nI (by omega) (by omega)) hp3 dL_law_362 ?_
  refine J_aload_n hC (j := 1) dL_law_363 rfl rfl ?_
  refine J_callW hC hN (wt_carry l hlt G D E g S A (z, []) p1 p2 p3) qw_437 qw_27 qw_438 (n := 5) (by decide +kernel) qw_436 rfl rfl (Nat.le_of_ble_eq_true rfl) ⟨Nat.le_of_ble_eq_true rfl, Nat.le_of_ble_eq_true rfl⟩ ⟨by show (124 + 280 * t) + 1 ≤ 601024; omega, by show (1425 + 3000 * t) + 6 ≤ 7293034; omega⟩ dL_law_364 ?_
  refine J_X ifD ?_
  generalize hD1 : (if kCarry D p1 p2 p3 = 0 then (moveW D p1 p2 p3) else D) = D1 at e3 ⊢
  refine J_o ifO ?_
  generalize hz : (if kCarry D p1 p2 p3 = 0 then (((vCarry D p1)).toInt64) else z) = z1
  refine J_istore (lv' := [(5, .int (kCarry D p1 p2 p3)), (4, .int (nI (4 * t))), (3, .ref (gA G 123)), (2, .ref (aX G 2 0)), (1, .ref (gA G 88)), (0, .ref b)]) hC dL_law_367 (by decide) rfl ?_
  refine J_aload_n hC (j := 3) dL_law_369 rfl rfl ?_
  refine J_aload_n hC (j := 5) dL_law_370 rfl rfl ?_
  refine J_iload hC (j := 1) dL_law_371 rfl ?_
  refine J_iconst (v := 1) hC dL_law_373 (by decide) ?_
  refine J_iadd hC dL_law_374 ?_
  refine J_top (y := nI (4 * t + 1)) (nI_k1 _) ?_
  refine J_sld hC hX hbl hbA (vp_nI (by omega) (by omega)) hp1 dL_law_375 ?_
  refine J_aload_n hC (j := 5) dL_law_376 rfl rfl ?_
  refine J_iload hC (j := 1) dL_law_377 rfl ?_
  refine J_iconst (v := 2) hC dL_law_379 (by decide) ?_
  refine J_iadd hC dL_law_380 ?_
  refine J_top (y := nI (4 * t + 2)) (nI_k2 _) ?_
  refine J_sld hC hX hbl hbA (vp_nI (by omega) (by omega)) hp2 dL_law_381 ?_
  refine J_aload_n hC (j := 5) dL_law_382 rfl rfl ?_
  refine J_iload hC (j := 1) dL_law_383 rfl ?_
  refine J_iconst (v := 3) hC dL_law_385 (by decide) ?_
  refine J_iadd hC dL_law_386 ?_
  refine J_top (y := nI (4 * t + 3)) (nI_k3 _) ?_
  refine J_sld hC hX hbl hbA (vp_nI (by omega) (by omega)) hp3 dL_law_387 ?_
  refine J_callV hC (ct_X6_carry l G D1 E g S A (z1, []) p1 p2 p3 (JJ_g2 hJ0) hJ0.2.1) mw_X6_carry qw_811 nl_m0 ent_m0 rfl rfl rfl (Nat.le_of_ble_eq_true rfl) ⟨Nat.le_of_ble_eq_true rfl, Nat.le_of_ble_eq_true rfl⟩ ⟨by show ((124 + 280 * t) + 1) + 0 ≤ 601024; omega, by show ((1425 + 3000 * t) + 6) + 0 ≤ 7293034; omega⟩ dL_law_388 ?_
  refine J_istore (lv' := [(6, .int ((vCarryM (setT g 0) S p1 p2 p3))), (5, .int (kCarry D p1 p2 p3)), (4, .int (nI (4 * t))), (3, .ref (gA G 123)), (2, .ref (aX G 2 0)), (1, .ref (gA G 88)), (0, .ref b)]) hC dL_law_391 (by decide) rfl ?_
  refine J_aload_n hC (j := 4) dL_law_393 rfl rfl ?_
  refine J_callV hC (ct_X6_thrown l G D1 E (mCarry (setT g 0) S p1 p2 p3) (sCarry (setT g 0) S p1 p2 p3) A (z1, [])) mw_X6_thrown qw_774 nl_m0 ent_m0 rfl rfl rfl (Nat.le_of_ble_eq_true rfl) ⟨Nat.le_of_ble_eq_true rfl, Nat.le_of_ble_eq_true rfl⟩ ⟨by show (((124 + 280 * t) + 1) + 0) + 0 ≤ 601024; omega, by show (((1425 + 3000 * t) + 6) + 0) + 0 ≤ 7293034; omega⟩ dL_law_394 ?_
  refine J_iload hC (j := 1) dL_law_397 rfl ?_
  refine J_icmp_eq (tgt := 404) hC dL_law_399 (by decide) (fun _ => ?_) (fun h => absurd e1.symm h)
  refine J_iload hC (j := 1) dL_law_404 rfl ?_
  refine J_if_ne (tgt := 421) hC dL_law_406 (by decide) (fun _ => ?_) (fun hk => ?_)
  · refine J_goto (tgt := 1327) hC dL_law_421 (by decide) ?_
    refine J_lv [2, 3, 4, 5, 6] (lv' := lvL G b t) rfl ?_
    refine J_widen (k := 124 + 280 * t + 280) (n := 1425 + 3000 * t + 3000) (by omega) (by omega) ?_
    exact hK D1 E (mCarry (setT g 0) S p1 p2 p3) (sCarry (setT g 0) S p1 p2 p3) A z1 e3
  · refine J_aload_n hC (j := 3) dL_law_409 rfl rfl ?_
    refine J_iconst (v := 0) hC dL_law_410 (by decide) ?_
    refine J_lald hC (by unfold vp_in; decide) dL_law_411 ?_
    refine J_iload hC (j := 0) dL_law_412 rfl ?_
    refine J_i2l hC dL_law_414 ?_
    refine J_lcmp hC dL_law_415 ?_
    refine J_if_eq (tgt := 421) hC dL_law_416 (by decide) (fun _ => ?_) (fun h => absurd (lgc_self (by rw [← hz, if_pos hk, e2 hk])) h)
    refine J_goto (tgt := 1327) hC dL_law_421 (by decide) ?_
    refine J_lv [2, 3, 4, 5, 6] (lv' := lvL G b t) rfl ?_
    refine J_widen (k := 124 + 280 * t + 280) (n := 1425 + 3000 * t + 3000) (by omega) (by omega) ?_
    exact hK D1 E (mCarry (setT g 0) S p1 p2 p3) (sCarry (setT g 0) S p1 p2 p3) A z1 e3
set_option maxHeartbeats 4000000 in
set_option maxRecDepth 100000 in
theorem law_infect (h0 : LC p l s m meth c G b L xs) (hL : L ≤ 2048) {t : Nat} (ht : 4 * t + 4 ≤ L) {D E g S A : DD} {z : Int64} (hJ : JJ (100 * t) D g S) (hK : LK p l e s m below meth c Q G b t (124 + 280 * t + 280) (1425 + 3000 * t + 3000)) : Jd p l e room_1 s m #[Value.ref b] below meth c Q G 9 (124 + 280 * t) (1425 + 3000 * t) (mk5 D E g S A) (z, []) 424 (lvL G b t) [] := by
  obtain ⟨hC, hN, hlt, hX, hbl, hbA⟩ := h0
  have hJ0 := JJ_set hJ 0
  obtain ⟨p1, hp1⟩ : ∃ x, xs (ix (nI (4 * t + 1))) = x := ⟨_, rfl⟩
  obtain ⟨p2, hp2⟩ : ∃ x, xs (ix (nI (4 * t + 2))) = x := ⟨_, rfl⟩
  obtain ⟨e1, e2, e3⟩ := go_infect (JJ_set hJ 0) rfl p1 p2
  refine J_aload_n hC (j := 3) dL_law_424 rfl rfl ?_
  refine J_aload_n hC (j := 4) dL_law_425 rfl rfl ?_
  refine J_iload hC (j := 0) dL_law_426 rfl ?_
  refine J_iconst (v := 1) hC dL_law_428 (by decide) ?_
  refine J_iadd hC dL_law_429 ?_
  refine J_top (y := nI (4 * t + 1)) (nI_k1 _) ?_
  refine J_sld hC hX hbl hbA (vp_nI (by omega) (by omega)) hp1 dL_law_430 ?_
  refine J_aload_n hC (j := 4) dL_law_431 rfl rfl ?_
  refine J_iload hC (j := 0) dL_law_432 rfl ?_
  refine J_iconst (v := 2) hC dL_law_434 (by decide) ?_
  refine J_iadd hC dL_law_435 ?_
  refine J_top (y := nI (4 * t + 2)) (nI_k2 _) ?_
  refine J_sld hC hX hbl hbA (vp_nI (by omega) (by omega)) hp2 dL_law_436 ?_
  refine J_aload_n hC (j := 1) dL_law_437 rfl rfl ?_
  refine J_callW hC hN (wt_infect l hlt G D E g S A (z, []) p1 p2) qw_455 qw_27 qw_456 (n := 4) (by decide +kernel) qw_454 rfl rfl (Nat.le_of_ble_eq_true rfl) ⟨Nat.le_of_ble_eq_true rfl, Nat.le_of_ble_eq_true rfl⟩ ⟨by show (124 + 280 * t) + 1 ≤ 601024; omega, by show (1425 + 3000 * t) + 6 ≤ 7293034; omega⟩ dL_law_438 ?_
  refine J_X ifD ?_
  generalize hD1 : (if kInfect D p1 p2 = 0 then (dInfect D p1 p2) else D) = D1 at e3 ⊢
  refine J_o ifO ?_
  generalize hz : (if kInfect D p1 p2 = 0 then (((D (ix p1) 7)).toInt64) else z) = z1
  refine J_istore (lv' := [(5, .int (kInfect D p1 p2)), (4, .int (nI (4 * t))), (3, .ref (gA G 123)), (2, .ref (aX G 2 0)), (1, .ref (gA G 88)), (0, .ref b)]) hC dL_law_441 (by decide) rfl ?_
  refine J_aload_n hC (j := 3) dL_law_443 rfl rfl ?_
  refine J_aload_n hC (j := 5) dL_law_444 rfl rfl ?_
  refine J_iload hC (j := 1) dL_law_445 rfl ?_
  refine J_iconst (v := 1) hC dL_law_447 (by decide) ?_
  refine J_iadd hC dL_law_448 ?_
  refine J_top (y := nI (4 * t + 1)) (nI_k1 _) ?_
  refine J_sld hC hX hbl hbA (vp_nI (by omega) (by omega)) hp1 dL_law_449 ?_
  refine J_aload_n hC (j := 5) dL_law_450 rfl rfl ?_
  refine J_iload hC (j := 1) dL_law_451 rfl ?_
  refine J_iconst (v := 2) hC dL_law_453 (by decide) ?_
  refine J_iadd hC dL_law_454 ?_
  refine J_top (y := nI (4 * t + 2)) (nI_k2 _) ?_
  refine J_sld hC hX hbl hbA (vp_nI (by omega) (by omega)) hp2 dL_law_455 ?_
  refine J_callV hC (ct_X6_infect l G D1 E g S A (z1, []) p1 p2 (JJ_g2 hJ0)) mw_X6_infect qw_819 nl_m0 ent_m0 rfl rfl rfl (Nat.le_of_ble_eq_true rfl) ⟨Nat.le_of_ble_eq_true rfl, Nat.le_of_ble_eq_true rfl⟩ ⟨by show ((124 + 280 * t) + 1) + 0 ≤ 601024; omega, by show ((1425 + 3000 * t) + 6) + 0 ≤ 7293034; omega⟩ dL_law_456 ?_
  refine J_istore (lv' := [(6, .int ((vInfM (setT g 0) S p1 p2))), (5, .int (kInfect D p1 p2)), (4, .int (nI (4 * t))), (3, .ref (gA G 123)), (2, .ref (aX G 2 0)), (1, .ref (gA G 88)), (0, .ref b)]) hC dL_law_459 (by decide) rfl ?_
  refine J_aload_n hC (j := 4) dL_law_461 rfl rfl ?_
  refine J_callV hC (ct_X6_thrown l G D1 E (mInf (setT g 0) S p1 p2) (sInf (setT g 0) S p1 p2) A (z1, [])) mw_X6_thrown qw_774 nl_m0 ent_m0 rfl rfl rfl (Nat.le_of_ble_eq_true rfl) ⟨Nat.le_of_ble_eq_true rfl, Nat.le_of_ble_eq_true rfl⟩ ⟨by show (((124 + 280 * t) + 1) + 0) + 0 ≤ 601024; omega, by show (((1425 + 3000 * t) + 6) + 0) + 0 ≤ 7293034; omega⟩ dL_law_462 ?_
  refine J_iload hC (j := 1) dL_law_465 rfl ?_
  refine J_icmp_eq (tgt := 472) hC dL_law_467 (by decide) (fun _ => ?_) (fun h => absurd e1.symm h)
  refine J_iload hC (j := 1) dL_law_472 rfl ?_
  refine J_if_ne (tgt := 489) hC dL_law_474 (by decide) (fun _ => ?_) (fun hk => ?_)
  · refine J_goto (tgt := 1327) hC dL_law_489 (by decide) ?_
    refine J_lv [2, 3, 4, 5, 6] (lv' := lvL G b t) rfl ?_
    refine J_widen (k := 124 + 280 * t + 280) (n := 1425 + 3000 * t + 3000) (by omega) (by omega) ?_
    exact hK D1 E (mInf (setT g 0) S p1 p2) (sInf (setT g 0) S p1 p2) A z1 e3
  · refine J_aload_n hC (j := 3) dL_law_477 rfl rfl ?_
    refine J_iconst (v := 0) hC dL_law_478 (by decide) ?_
    refine J_lald hC (by unfold vp_in; decide) dL_law_479 ?_
    refine J_iload hC (j := 0) dL_law_480 rfl ?_
    refine J_i2l hC dL_law_482 ?_
    refine J_lcmp hC dL_law_483 ?_
    refine J_if_eq (tgt := 489) hC dL_law_484 (by decide) (fun _ => ?_) (fun h => absurd (lgc_self (by rw [← hz, if_pos hk, e2 hk])) h)
    refine J_goto (tgt := 1327) hC dL_law_489 (by decide) ?_
    refine J_lv [2, 3, 4, 5, 6] (lv' := lvL G b t) rfl ?_
    refine J_widen (k := 124 + 280 * t + 280) (n := 1425 + 3000 * t + 3000) (by omega) (by omega) ?_
    exact hK D1 E (mInf (setT g 0) S p1 p2) (sInf (setT g 0) S p1 p2) A z1 e3
set_option maxHeartbeats 4000000 in
set_option maxRecDepth 100000 in
theorem law_sell (h0 : LC p l s m meth c G b L xs) (hL : L ≤ 2048) {t : Nat} (ht : 4 * t + 4 ≤ L) {D E g S A : DD} {z : Int64} (hJ : JJ (100 * t) D g S) (hK : LK p l e s m below meth c Q G b t (124 + 280 * t + 280) (1425 + 3000 * t + 3000)) : Jd p l e room_1 s m #[Value.ref b] below meth c Q G 9 (124 + 280 * t) (1425 + 3000 * t) (mk5 D E g S A) (z, []) 492 (lvL G b t) [] := by
  obtain ⟨hC, hN, hlt, hX, hbl, hbA⟩ := h0
  have hJ0 := JJ_set hJ 0
  obtain ⟨p1, hp1⟩ : ∃ x, xs (ix (nI (4 * t + 1))) = x := ⟨_, rfl⟩
  obtain ⟨e1, e2, e3⟩ := go_sell (JJ_set hJ 0) rfl p1
  refine J_aload_n hC (j := 3) dL_law_492 rfl rfl ?_
  refine J_aload_n hC (j := 4) dL_law_493 rfl rfl ?_
  refine J_iload hC (j := 0) dL_law_494 rfl ?_
  refine J_iconst (v := 1) hC dL_law_496 (by decide) ?_
  refine J_iadd hC dL_law_497 ?_
  refine J_top (y := nI (4 * t + 1)) (nI_k1 _) ?_
  refine J_sld hC hX hbl hbA (vp_nI (by omega) (by omega)) hp1 dL_law_498 ?_
  refine J_aload_n hC (j := 1) dL_law_499 rfl rfl ?_
  refine J_callW hC hN (wt_sell l hlt G D E g S A (z, []) p1) qw_469 qw_27 qw_470 (n := 3) (by decide +kernel) qw_468 rfl rfl (Nat.le_of_ble_eq_true rfl) ⟨Nat.le_of_ble_eq_true rfl, Nat.le_of_ble_eq_true rfl⟩ ⟨by show (124 + 280 * t) + 1 ≤ 601024; omega, by show (1425 + 3000 * t) + 6 ≤ 7293034; omega⟩ dL_law_500 ?_
  refine J_X ifD ?_
  generalize hD1 : (if kSell D p1 = 0 then (dSell D p1) else D) = D1 at e3 ⊢
  refine J_o ifO ?_
  generalize hz : (if kSell D p1 = 0 then (((worth (D (ix p1)))).toInt64) else z) = z1
  refine J_istore (lv' := [(5, .int (kSell D p1)), (4, .int (nI (4 * t))), (3, .ref (gA G 123)), (2, .ref (aX G 2 0)), (1, .ref (gA G 88)), (0, .ref b)]) hC dL_law_503 (by decide) rfl ?_
  refine J_aload_n hC (j := 3) dL_law_505 rfl rfl ?_
  refine J_aload_n hC (j := 5) dL_law_506 rfl rfl ?_
  refine J_iload hC (j := 1) dL_law_507 rfl ?_
  refine J_iconst (v := 1) hC dL_law_509 (by decide) ?_
  refine J_iadd hC dL_law_510 ?_
  refine J_top (y := nI (4 * t + 1)) (nI_k1 _) ?_
  refine J_sld hC hX hbl hbA (vp_nI (by omega) (by omega)) hp1 dL_law_511 ?_
  refine J_callV hC (ct_X6_sell l G D1 E g S A (z1, []) p1 (JJ_g2 hJ0) hJ0.2.1) mw_X6_sell qw_827 nl_m0 ent_m0 rfl rfl rfl (Nat.le_of_ble_eq_true rfl) ⟨Nat.le_of_ble_eq_true rfl, Nat.le_of_ble_eq_true rfl⟩ ⟨by show ((124 + 280 * t) + 1) + 0 ≤ 601024; omega, by show ((1425 + 3000 * t) + 6) + 0 ≤ 7293034; omega⟩ dL_law_512 ?_
  refine J_istore (lv' := [(6, .int ((vSellM (setT g 0) S p1))), (5, .int (kSell D p1)), (4, .int (nI (4 * t))), (3, .ref (gA G 123)), (2, .ref (aX G 2 0)), (1, .ref (gA G 88)), (0, .ref b)]) hC dL_law_515 (by decide) rfl ?_
  refine J_aload_n hC (j := 4) dL_law_517 rfl rfl ?_
  refine J_callV hC (ct_X6_thrown l G D1 E (mSell (setT g 0) S p1) (sSell (setT g 0) S p1) A (z1, [])) mw_X6_thrown qw_774 nl_m0 ent_m0 rfl rfl rfl (Nat.le_of_ble_eq_true rfl) ⟨Nat.le_of_ble_eq_true rfl, Nat.le_of_ble_eq_true rfl⟩ ⟨by show (((124 + 280 * t) + 1) + 0) + 0 ≤ 601024; omega, by show (((1425 + 3000 * t) + 6) + 0) + 0 ≤ 7293034; omega⟩ dL_law_518 ?_
  refine J_iload hC (j := 1) dL_law_521 rfl ?_
  refine J_icmp_eq (tgt := 528) hC dL_law_523 (by decide) (fun _ => ?_) (fun h => absurd e1.symm h)
  refine J_iload hC (j := 1) dL_law_528 rfl ?_
  refine J_if_ne (tgt := 545) hC dL_law_530 (by decide) (fun _ => ?_) (fun hk => ?_)
  · refine J_goto (tgt := 1327) hC dL_law_545 (by decide) ?_
    refine J_lv [2, 3, 4, 5, 6] (lv' := lvL G b t) rfl ?_
    refine J_widen (k := 124 + 280 * t + 280) (n := 1425 + 3000 * t + 3000) (by omega) (by omega) ?_
    exact hK D1 E (mSell (setT g 0) S p1) (sSell (setT g 0) S p1) A z1 e3
  · refine J_aload_n hC (j := 3) dL_law_533 rfl rfl ?_
    refine J_iconst (v := 0) hC dL_law_534 (by decide) ?_
    refine J_lald hC (by unfold vp_in; decide) dL_law_535 ?_
    refine J_iload hC (j := 0) dL_law_536 rfl ?_
    refine J_i2l hC dL_law_538 ?_
    refine J_lcmp hC dL_law_539 ?_
    refine J_if_eq (tgt := 545) hC dL_law_540 (by decide) (fun _ => ?_) (fun h => absurd (lgc_self (by rw [← hz, if_pos hk, e2 hk])) h)
    refine J_goto (tgt := 1327) hC dL_law_545 (by decide) ?_
    refine J_lv [2, 3, 4, 5, 6] (lv' := lvL G b t) rfl ?_
    refine J_widen (k := 124 + 280 * t + 280) (n := 1425 + 3000 * t + 3000) (by omega) (by omega) ?_
    exact hK D1 E (mSell (setT g 0) S p1) (sSell (setT g 0) S p1) A z1 e3
set_option maxHeartbeats 4000000 in
set_option maxRecDepth 100000 in
theorem law_hire (h0 : LC p l s m meth c G b L xs) (hL : L ≤ 2048) {t : Nat} (ht : 4 * t + 4 ≤ L) {D E g S A : DD} {z : Int64} (hJ : JJ (100 * t) D g S) (hK : LK p l e s m below meth c Q G b t (124 + 280 * t + 280) (1425 + 3000 * t + 3000)) : Jd p l e room_1 s m #[Value.ref b] below meth c Q G 9 (124 + 280 * t) (1425 + 3000 * t) (mk5 D E g S A) (z, []) 548 (lvL G b t) [] := by
  obtain ⟨hC, hN, hlt, hX, hbl, hbA⟩ := h0
  have hJ0 := JJ_set hJ 0
  obtain ⟨p1, hp1⟩ : ∃ x, xs (ix (nI (4 * t + 1))) = x := ⟨_, rfl⟩
  obtain ⟨p2, hp2⟩ : ∃ x, xs (ix (nI (4 * t + 2))) = x := ⟨_, rfl⟩
  obtain ⟨e1, e2, e3⟩ := go_hire (JJ_set hJ 0) rfl p1 p2
  refine J_aload_n hC (j := 3) dL_law_548 rfl rfl ?_
  refine J_aload_n hC (j := 4) dL_law_549 rfl rfl ?_
  refine J_iload hC (j := 0) dL_law_550 rfl ?_
  refine J_iconst (v := 1) hC dL_law_552 (by decide) ?_
  refine J_iadd hC dL_law_553 ?_
  refine J_top (y := nI (4 * t + 1)) (nI_k1 _) ?_
  refine J_sld hC hX hbl hbA (vp_nI (by omega) (by omega)) hp1 dL_law_554 ?_
  refine J_aload_n hC (j := 4) dL_law_555 rfl rfl ?_
  refine J_iload hC (j := 0) dL_law_556 rfl ?_
  refine J_iconst (v := 2) hC dL_law_558 (by decide) ?_
  refine J_iadd hC dL_law_559 ?_
  refine J_top (y := nI (4 * t + 2)) (nI_k2 _) ?_
  refine J_sld hC hX hbl hbA (vp_nI (by omega) (by omega)) hp2 dL_law_560 ?_
  refine J_aload_n hC (j := 1) dL_law_561 rfl rfl ?_
  refine J_callW hC hN (wt_hire l hlt G D E g S A (z, []) p1 p2) qw_481 qw_27 qw_482 (n := 4) (by decide +kernel) qw_480 rfl rfl (Nat.le_of_ble_eq_true rfl) ⟨Nat.le_of_ble_eq_true rfl, Nat.le_of_ble_eq_true rfl⟩ ⟨by show (124 + 280 * t) + 1 ≤ 601024; omega, by show (1425 + 3000 * t) + 6 ≤ 7293034; omega⟩ dL_law_562 ?_
  refine J_X ifD ?_
  generalize hD1 : (if kHire D p1 p2 = 0 then (addM D p1 p2) else D) = D1 at e3 ⊢
  refine J_o ifO ?_
  generalize hz : (if kHire D p1 p2 = 0 then (((D 40 4)).toInt64) else z) = z1
  refine J_istore (lv' := [(5, .int (kHire D p1 p2)), (4, .int (nI (4 * t))), (3, .ref (gA G 123)), (2, .ref (aX G 2 0)), (1, .ref (gA G 88)), (0, .ref b)]) hC dL_law_565 (by decide) rfl ?_
  refine J_aload_n hC (j := 3) dL_law_567 rfl rfl ?_
  refine J_aload_n hC (j := 5) dL_law_568 rfl rfl ?_
  refine J_iload hC (j := 1) dL_law_569 rfl ?_
  refine J_iconst (v := 1) hC dL_law_571 (by decide) ?_
  refine J_iadd hC dL_law_572 ?_
  refine J_top (y := nI (4 * t + 1)) (nI_k1 _) ?_
  refine J_sld hC hX hbl hbA (vp_nI (by omega) (by omega)) hp1 dL_law_573 ?_
  refine J_aload_n hC (j := 5) dL_law_574 rfl rfl ?_
  refine J_iload hC (j := 1) dL_law_575 rfl ?_
  refine J_iconst (v := 2) hC dL_law_577 (by decide) ?_
  refine J_iadd hC dL_law_578 ?_
  refine J_top (y := nI (4 * t + 2)) (nI_k2 _) ?_
  refine J_sld hC hX hbl hbA (vp_nI (by omega) (by omega)) hp2 dL_law_579 ?_
  refine J_callV hC (ct_X6_hire l G D1 E g S A (z1, []) p1 p2 (JJ_g2 hJ0)) mw_X6_hire qw_842 nl_m0 ent_m0 rfl rfl rfl (Nat.le_of_ble_eq_true rfl) ⟨Nat.le_of_ble_eq_true rfl, Nat.le_of_ble_eq_true rfl⟩ ⟨by show ((124 + 280 * t) + 1) + 0 ≤ 601024; omega, by show ((1425 + 3000 * t) + 6) + 0 ≤ 7293034; omega⟩ dL_law_580 ?_
  refine J_istore (lv' := [(6, .int ((vHireM (setT g 0) p1 p2))), (5, .int (kHire D p1 p2)), (4, .int (nI (4 * t))), (3, .ref (gA G 123)), (2, .ref (aX G 2 0)), (1, .ref (gA G 88)), (0, .ref b)]) hC dL_law_583 (by decide) rfl ?_
  refine J_aload_n hC (j := 4) dL_law_585 rfl rfl ?_
  refine J_callV hC (ct_X6_thrown l G D1 E (mHire (setT g 0) p1 p2) (sHire (setT g 0) S p1 p2) A (z1, [])) mw_X6_thrown qw_774 nl_m0 ent_m0 rfl rfl rfl (Nat.le_of_ble_eq_true rfl) ⟨Nat.le_of_ble_eq_true rfl, Nat.le_of_ble_eq_true rfl⟩ ⟨by show (((124 + 280 * t) + 1) + 0) + 0 ≤ 601024; omega, by show (((1425 + 3000 * t) + 6) + 0) + 0 ≤ 7293034; omega⟩ dL_law_586 ?_
  refine J_iload hC (j := 1) dL_law_589 rfl ?_
  refine J_icmp_eq (tgt := 596) hC dL_law_591 (by decide) (fun _ => ?_) (fun h => absurd e1.symm h)
  refine J_iload hC (j := 1) dL_law_596 rfl ?_
  refine J_if_ne (tgt := 613) hC dL_law_598 (by decide) (fun _ => ?_) (fun hk => ?_)
  · refine J_goto (tgt := 1327) hC dL_law_613 (by decide) ?_
    refine J_lv [2, 3, 4, 5, 6] (lv' := lvL G b t) rfl ?_
    refine J_widen (k := 124 + 280 * t + 280) (n := 1425 + 3000 * t + 3000) (by omega) (by omega) ?_
    exact hK D1 E (mHire (setT g 0) p1 p2) (sHire (setT g 0) S p1 p2) A z1 e3
  · refine J_aload_n hC (j := 3) dL_law_601 rfl rfl ?_
    refine J_iconst (v := 0) hC dL_law_602 (by decide) ?_
    refine J_lald hC (by unfold vp_in; decide) dL_law_603 ?_
    refine J_iload hC (j := 0) dL_law_604 rfl ?_
    refine J_i2l hC dL_law_606 ?_
    refine J_lcmp hC dL_law_607 ?_
    refine J_if_eq (tgt := 613) hC dL_law_608 (by decide) (fun _ => ?_) (fun h => absurd (lgc_self (by rw [← hz, if_pos hk, e2 hk])) h)
    refine J_goto (tgt := 1327) hC dL_law_613 (by decide) ?_
    refine J_lv [2, 3, 4, 5, 6] (lv' := lvL G b t) rfl ?_
    refine J_widen (k := 124 + 280 * t + 280) (n := 1425 + 3000 * t + 3000) (by omega) (by omega) ?_
    exact hK D1 E (mHire (setT g 0) p1 p2) (sHire (setT g 0) S p1 p2) A z1 e3
set_option maxHeartbeats 4000000 in
set_option maxRecDepth 100000 in
theorem law_setRota (h0 : LC p l s m meth c G b L xs) (hL : L ≤ 2048) {t : Nat} (ht : 4 * t + 4 ≤ L) {D E g S A : DD} {z : Int64} (hJ : JJ (100 * t) D g S) (hK : LK p l e s m below meth c Q G b t (124 + 280 * t + 280) (1425 + 3000 * t + 3000)) : Jd p l e room_1 s m #[Value.ref b] below meth c Q G 9 (124 + 280 * t) (1425 + 3000 * t) (mk5 D E g S A) (z, []) 616 (lvL G b t) [] := by
  obtain ⟨hC, hN, hlt, hX, hbl, hbA⟩ := h0
  have hJ0 := JJ_set hJ 0
  obtain ⟨p1, hp1⟩ : ∃ x, xs (ix (nI (4 * t + 1))) = x := ⟨_, rfl⟩
  obtain ⟨p2, hp2⟩ : ∃ x, xs (ix (nI (4 * t + 2))) = x := ⟨_, rfl⟩
  obtain ⟨p3, hp3⟩ : ∃ x, xs (ix (nI (4 * t + 3))) = x := ⟨_, rfl⟩
  obtain ⟨e1, e2, e3⟩ := go_setRota (JJ_set hJ 0) rfl p1 p2 p3
  refine J_aload_n hC (j := 3) dL_law_616 rfl rfl ?_
  refine J_aload_n hC (j := 4) dL_law_617 rfl rfl ?_
  refine J_iload hC (j := 0) dL_law_618 rfl ?_
  refine J_iconst (v := 1) hC dL_law_620 (by decide) ?_
  refine J_iadd hC dL_law_621 ?_
  refine J_top (y := nI (4 * t + 1)) (nI_k1 _) ?_
  refine J_sld hC hX hbl hbA (vp_nI (by omega) (by omega)) hp1 dL_law_622 ?_
  refine J_aload_n hC (j := 4) dL_law_623 rfl rfl ?_
  refine J_iload hC (j := 0) dL_law_624 rfl ?_
  refine J_iconst (v := 2) hC dL_law_626 (by decide) ?_
  refine J_iadd hC dL_law_627 ?_
  refine J_top (y := nI (4 * t + 2)) (nI_k2 _) ?_
  refine J_sld hC hX hbl hbA (vp_nI (by omega) (by omega)) hp2 dL_law_628 ?_
  refine J_aload_n hC (j := 4) dL_law_629 rfl rfl ?_
  refine J_iload hC (j := 0) dL_law_630 rfl ?_
  refine J_iconst (v := 3) hC dL_law_632 (by decide) ?_
  refine J_iadd hC dL_law_633 ?_
  refine J_top (y := nI (4 * t + 3)) (nI_k3 _) ?_
  refine J_sld hC hX hbl hbA (vp_nI (by omega) (by omega)) hp3 dL_law_634 ?_
  refine J_aload_n hC (j := 1) dL_law_635 rfl rfl ?_
  refine J_callW hC hN (wt_setRota l hlt G D E g S A (z, []) p1 p2 p3) qw_495 qw_27 qw_496 (n := 5) (by decide +kernel) qw_494 rfl rfl (Nat.le_of_ble_eq_true rfl) ⟨Nat.le_of_ble_eq_true rfl, Nat.le_of_ble_eq_true rfl⟩ ⟨by show (124 + 280 * t) + 1 ≤ 601024; omega, by show (1425 + 3000 * t) + 6 ≤ 7293034; omega⟩ dL_law_636 ?_
  refine J_X ifD ?_
  generalize hD1 : (if kRota D p1 p2 p3 = 0 then (dRota D p1 p2 p3) else D) = D1 at e3 ⊢
  refine J_o ifO ?_
  generalize hz : (if kRota D p1 p2 p3 = 0 then (((wOn (D (36 + (ix p1))) p2)).toInt64) else z) = z1
  refine J_istore (lv' := [(5, .int (kRota D p1 p2 p3)), (4, .int (nI (4 * t))), (3, .ref (gA G 123)), (2, .ref (aX G 2 0)), (1, .ref (gA G 88)), (0, .ref b)]) hC dL_law_639 (by decide) rfl ?_
  refine J_aload_n hC (j := 3) dL_law_641 rfl rfl ?_
  refine J_aload_n hC (j := 5) dL_law_642 rfl rfl ?_
  refine J_iload hC (j := 1) dL_law_643 rfl ?_
  refine J_iconst (v := 1) hC dL_law_645 (by decide) ?_
  refine J_iadd hC dL_law_646 ?_
  refine J_top (y := nI (4 * t + 1)) (nI_k1 _) ?_
  refine J_sld hC hX hbl hbA (vp_nI (by omega) (by omega)) hp1 dL_law_647 ?_
  refine J_aload_n hC (j := 5) dL_law_648 rfl rfl ?_
  refine J_iload hC (j := 1) dL_law_649 rfl ?_
  refine J_iconst (v := 2) hC dL_law_651 (by decide) ?_
  refine J_iadd hC dL_law_652 ?_
  refine J_top (y := nI (4 * t + 2)) (nI_k2 _) ?_
  refine J_sld hC hX hbl hbA (vp_nI (by omega) (by omega)) hp2 dL_law_653 ?_
  refine J_aload_n hC (j := 5) dL_law_654 rfl rfl ?_
  refine J_iload hC (j := 1) dL_law_655 rfl ?_
  refine J_iconst (v := 3) hC dL_law_657 (by decide) ?_
  refine J_iadd hC dL_law_658 ?_
  refine J_top (y := nI (4 * t + 3)) (nI_k3 _) ?_
  refine J_sld hC hX hbl hbA (vp_nI (by omega) (by omega)) hp3 dL_law_659 ?_
  refine J_callV hC (ct_X6_setRota l G D1 E g S A (z1, []) p1 p2 p3 (JJ_g2 hJ0)) mw_X6_setRota qw_846 nl_m0 ent_m0 rfl rfl rfl (Nat.le_of_ble_eq_true rfl) ⟨Nat.le_of_ble_eq_true rfl, Nat.le_of_ble_eq_true rfl⟩ ⟨by show ((124 + 280 * t) + 1) + 0 ≤ 601024; omega, by show ((1425 + 3000 * t) + 6) + 0 ≤ 7293034; omega⟩ dL_law_660 ?_
  refine J_istore (lv' := [(6, .int ((vRotaM (setT g 0) p1 p2 p3))), (5, .int (kRota D p1 p2 p3)), (4, .int (nI (4 * t))), (3, .ref (gA G 123)), (2, .ref (aX G 2 0)), (1, .ref (gA G 88)), (0, .ref b)]) hC dL_law_663 (by decide) rfl ?_
  refine J_aload_n hC (j := 4) dL_law_665 rfl rfl ?_
  refine J_callV hC (ct_X6_thrown l G D1 E (mRota (setT g 0) p1 p2 p3) S A (z1, [])) mw_X6_thrown qw_774 nl_m0 ent_m0 rfl rfl rfl (Nat.le_of_ble_eq_true rfl) ⟨Nat.le_of_ble_eq_true rfl, Nat.le_of_ble_eq_true rfl⟩ ⟨by show (((124 + 280 * t) + 1) + 0) + 0 ≤ 601024; omega, by show (((1425 + 3000 * t) + 6) + 0) + 0 ≤ 7293034; omega⟩ dL_law_666 ?_
  refine J_iload hC (j := 1) dL_law_669 rfl ?_
  refine J_icmp_eq (tgt := 676) hC dL_law_671 (by decide) (fun _ => ?_) (fun h => absurd e1.symm h)
  refine J_iload hC (j := 1) dL_law_676 rfl ?_
  refine J_if_ne (tgt := 693) hC dL_law_678 (by decide) (fun _ => ?_) (fun hk => ?_)
  · refine J_goto (tgt := 1327) hC dL_law_693 (by decide) ?_
    refine J_lv [2, 3, 4, 5, 6] (lv' := lvL G b t) rfl ?_
    refine J_widen (k := 124 + 280 * t + 280) (n := 1425 + 3000 * t + 3000) (by omega) (by omega) ?_
    exact hK D1 E (mRota (setT g 0) p1 p2 p3) S A z1 e3
  · refine J_aload_n hC (j := 3) dL_law_681 rfl rfl ?_
    refine J_iconst (v := 0) hC dL_law_682 (by decide) ?_
    refine J_lald hC (by unfold vp_in; decide) dL_law_683 ?_
    refine J_iload hC (j := 0) dL_law_684 rfl ?_
    refine J_i2l hC dL_law_686 ?_
    refine J_lcmp hC dL_law_687 ?_
    refine J_if_eq (tgt := 693) hC dL_law_688 (by decide) (fun _ => ?_) (fun h => absurd (lgc_self (by rw [← hz, if_pos hk, e2 hk])) h)
    refine J_goto (tgt := 1327) hC dL_law_693 (by decide) ?_
    refine J_lv [2, 3, 4, 5, 6] (lv' := lvL G b t) rfl ?_
    refine J_widen (k := 124 + 280 * t + 280) (n := 1425 + 3000 * t + 3000) (by omega) (by omega) ?_
    exact hK D1 E (mRota (setT g 0) p1 p2 p3) S A z1 e3
set_option maxHeartbeats 4000000 in
set_option maxRecDepth 100000 in
theorem law_wheel (h0 : LC p l s m meth c G b L xs) (hL : L ≤ 2048) {t : Nat} (ht : 4 * t + 4 ≤ L) {D E g S A : DD} {z : Int64} (hJ : JJ (100 * t) D g S) (hK : LK p l e s m below meth c Q G b t (124 + 280 * t + 280) (1425 + 3000 * t + 3000)) : Jd p l e room_1 s m #[Value.ref b] below meth c Q G 9 (124 + 280 * t) (1425 + 3000 * t) (mk5 D E g S A) (z, []) 696 (lvL G b t) [] := by
  obtain ⟨hC, hN, hlt, hX, hbl, hbA⟩ := h0
  have hJ0 := JJ_set hJ 0
  obtain ⟨p1, hp1⟩ : ∃ x, xs (ix (nI (4 * t + 1))) = x := ⟨_, rfl⟩
  obtain ⟨p2, hp2⟩ : ∃ x, xs (ix (nI (4 * t + 2))) = x := ⟨_, rfl⟩
  obtain ⟨e1, e2, e3⟩ := go_wheel (JJ_set hJ 0) rfl p1 p2
  refine J_aload_n hC (j := 3) dL_law_696 rfl rfl ?_
  refine J_aload_n hC (j := 4) dL_law_697 rfl rfl ?_
  refine J_iload hC (j := 0) dL_law_698 rfl ?_
  refine J_iconst (v := 1) hC dL_law_700 (by decide) ?_
  refine J_iadd hC dL_law_701 ?_
  refine J_top (y := nI (4 * t + 1)) (nI_k1 _) ?_
  refine J_sld hC hX hbl hbA (vp_nI (by omega) (by omega)) hp1 dL_law_702 ?_
  refine J_aload_n hC (j := 4) dL_law_703 rfl rfl ?_
  refine J_iload hC (j := 0) dL_law_704 rfl ?_
  refine J_iconst (v := 2) hC dL_law_706 (by decide) ?_
  refine J_iadd hC dL_law_707 ?_
  refine J_top (y := nI (4 * t + 2)) (nI_k2 _) ?_
  refine J_sld hC hX hbl hbA (vp_nI (by omega) (by omega)) hp2 dL_law_708 ?_
  refine J_aload_n hC (j := 1) dL_law_709 rfl rfl ?_
  refine J_callW hC hN (wt_wheel l hlt G D E g S A (z, []) p1 p2) qw_508 qw_27 qw_509 (n := 4) (by decide +kernel) qw_507 rfl rfl (Nat.le_of_ble_eq_true rfl) ⟨Nat.le_of_ble_eq_true rfl, Nat.le_of_ble_eq_true rfl⟩ ⟨by show (124 + 280 * t) + 1 ≤ 601024; omega, by show (1425 + 3000 * t) + 6 ≤ 7293034; omega⟩ dL_law_710 ?_
  refine J_X (X' := mk5 D E g S A) (by split <;> rfl) ?_
  refine J_o ifO ?_
  generalize hz : (if kWheel D p1 p2 = 0 then (((wFact (D (ix p1)) p2)).toInt64) else z) = z1
  refine J_istore (lv' := [(5, .int (kWheel D p1 p2)), (4, .int (nI (4 * t))), (3, .ref (gA G 123)), (2, .ref (aX G 2 0)), (1, .ref (gA G 88)), (0, .ref b)]) hC dL_law_713 (by decide) rfl ?_
  refine J_aload_n hC (j := 3) dL_law_715 rfl rfl ?_
  refine J_aload_n hC (j := 5) dL_law_716 rfl rfl ?_
  refine J_iload hC (j := 1) dL_law_717 rfl ?_
  refine J_iconst (v := 1) hC dL_law_719 (by decide) ?_
  refine J_iadd hC dL_law_720 ?_
  refine J_top (y := nI (4 * t + 1)) (nI_k1 _) ?_
  refine J_sld hC hX hbl hbA (vp_nI (by omega) (by omega)) hp1 dL_law_721 ?_
  refine J_aload_n hC (j := 5) dL_law_722 rfl rfl ?_
  refine J_iload hC (j := 1) dL_law_723 rfl ?_
  refine J_iconst (v := 2) hC dL_law_725 (by decide) ?_
  refine J_iadd hC dL_law_726 ?_
  refine J_top (y := nI (4 * t + 2)) (nI_k2 _) ?_
  refine J_sld hC hX hbl hbA (vp_nI (by omega) (by omega)) hp2 dL_law_727 ?_
  refine J_callV hC (ct_X6_wheel l G D E g S A (z1, []) p1 p2 (JJ_g2 hJ0)) mw_X6_wheel qw_854 nl_m0 ent_m0 rfl rfl rfl (Nat.le_of_ble_eq_true rfl) ⟨Nat.le_of_ble_eq_true rfl, Nat.le_of_ble_eq_true rfl⟩ ⟨by show ((124 + 280 * t) + 1) + 1 ≤ 601024; omega, by show ((1425 + 3000 * t) + 6) + 11 ≤ 7293034; omega⟩ dL_law_728 ?_
  refine J_istore (lv' := [(6, .int ((vWheelM (setT g 0) S p1 p2))), (5, .int (kWheel D p1 p2)), (4, .int (nI (4 * t))), (3, .ref (gA G 123)), (2, .ref (aX G 2 0)), (1, .ref (gA G 88)), (0, .ref b)]) hC dL_law_731 (by decide) rfl ?_
  refine J_aload_n hC (j := 4) dL_law_733 rfl rfl ?_
  refine J_callV hC (ct_X6_thrown l G D E (mWheel (setT g 0) p1 p2) S A (z1, [])) mw_X6_thrown qw_774 nl_m0 ent_m0 rfl rfl rfl (Nat.le_of_ble_eq_true rfl) ⟨Nat.le_of_ble_eq_true rfl, Nat.le_of_ble_eq_true rfl⟩ ⟨by show (((124 + 280 * t) + 1) + 1) + 0 ≤ 601024; omega, by show (((1425 + 3000 * t) + 6) + 11) + 0 ≤ 7293034; omega⟩ dL_law_734 ?_
  refine J_iload hC (j := 1) dL_law_737 rfl ?_
  refine J_icmp_eq (tgt := 744) hC dL_law_739 (by decide) (fun _ => ?_) (fun h => absurd e1.symm h)
  refine J_iload hC (j := 1) dL_law_744 rfl ?_
  refine J_if_ne (tgt := 761) hC dL_law_746 (by decide) (fun _ => ?_) (fun hk => ?_)
  · refine J_goto (tgt := 1327) hC dL_law_761 (by decide) ?_
    refine J_lv [2, 3, 4, 5, 6] (lv' := lvL G b t) rfl ?_
    refine J_widen (k := 124 + 280 * t + 280) (n := 1425 + 3000 * t + 3000) (by omega) (by omega) ?_
    exact hK D E (mWheel (setT g 0) p1 p2) S A z1 e3
  · refine J_aload_n hC (j := 3) dL_law_749 rfl rfl ?_
    refine J_iconst (v := 0) hC dL_law_750 (by decide) ?_
    refine J_lald hC (by unfold vp_in; decide) dL_law_751 ?_
    refine J_iload hC (j := 0) dL_law_752 rfl ?_
    refine J_i2l hC dL_law_754 ?_
    refine J_lcmp hC dL_law_755 ?_
    refine J_if_eq (tgt := 761) hC dL_law_756 (by decide) (fun _ => ?_) (fun h => absurd (lgc_self (by rw [← hz, if_pos hk, e2 hk])) h)
    refine J_goto (tgt := 1327) hC dL_law_761 (by decide) ?_
    refine J_lv [2, 3, 4, 5, 6] (lv' := lvL G b t) rfl ?_
    refine J_widen (k := 124 + 280 * t + 280) (n := 1425 + 3000 * t + 3000) (by omega) (by omega) ?_
    exact hK D E (mWheel (setT g 0) p1 p2) S A z1 e3
set_option maxHeartbeats 4000000 in
set_option maxRecDepth 100000 in
theorem law_cellar (h0 : LC p l s m meth c G b L xs) (hL : L ≤ 2048) {t : Nat} (ht : 4 * t + 4 ≤ L) {D E g S A : DD} {z : Int64} (hJ : JJ (100 * t) D g S) (hK : LK p l e s m below meth c Q G b t (124 + 280 * t + 280) (1425 + 3000 * t + 3000)) : Jd p l e room_1 s m #[Value.ref b] below meth c Q G 9 (124 + 280 * t) (1425 + 3000 * t) (mk5 D E g S A) (z, []) 764 (lvL G b t) [] := by
  obtain ⟨hC, hN, hlt, hX, hbl, hbA⟩ := h0
  have hJ0 := JJ_set hJ 0
  obtain ⟨p1, hp1⟩ : ∃ x, xs (ix (nI (4 * t + 1))) = x := ⟨_, rfl⟩
  obtain ⟨p2, hp2⟩ : ∃ x, xs (ix (nI (4 * t + 2))) = x := ⟨_, rfl⟩
  obtain ⟨e1, e2, e3⟩ := go_cellar (JJ_set hJ 0) rfl p1 p2
  refine J_aload_n hC (j := 3) dL_law_764 rfl rfl ?_
  refine J_aload_n hC (j := 4) dL_law_765 rfl rfl ?_
  refine J_iload hC (j := 0) dL_law_766 rfl ?_
  refine J_iconst (v := 1) hC dL_law_768 (by decide) ?_
  refine J_iadd hC dL_law_769 ?_
  refine J_top (y := nI (4 * t + 1)) (nI_k1 _) ?_
  refine J_sld hC hX hbl hbA (vp_nI (by omega) (by omega)) hp1 dL_law_770 ?_
  refine J_aload_n hC (j := 4) dL_law_771 rfl rfl ?_
  refine J_iload hC (j := 0) dL_law_772 rfl ?_
  refine J_iconst (v := 2) hC dL_law_774 (by decide) ?_
  refine J_iadd hC dL_law_775 ?_
  refine J_top (y := nI (4 * t + 2)) (nI_k2 _) ?_
  refine J_sld hC hX hbl hbA (vp_nI (by omega) (by omega)) hp2 dL_law_776 ?_
  refine J_aload_n hC (j := 1) dL_law_777 rfl rfl ?_
  refine J_callW hC hN (wt_cellar l hlt G D E g S A (z, []) p1 p2) qw_516 qw_27 qw_517 (n := 4) (by decide +kernel) qw_515 rfl rfl (Nat.le_of_ble_eq_true rfl) ⟨Nat.le_of_ble_eq_true rfl, Nat.le_of_ble_eq_true rfl⟩ ⟨by show (124 + 280 * t) + 1 ≤ 601024; omega, by show (1425 + 3000 * t) + 6 ≤ 7293034; omega⟩ dL_law_778 ?_
  refine J_X (X' := mk5 D E g S A) (by split <;> rfl) ?_
  refine J_o ifO ?_
  generalize hz : (if kCellar D p1 p2 = 0 then (((ceFact D p1 p2)).toInt64) else z) = z1
  refine J_istore (lv' := [(5, .int (kCellar D p1 p2)), (4, .int (nI (4 * t))), (3, .ref (gA G 123)), (2, .ref (aX G 2 0)), (1, .ref (gA G 88)), (0, .ref b)]) hC dL_law_781 (by decide) rfl ?_
  refine J_aload_n hC (j := 3) dL_law_783 rfl rfl ?_
  refine J_aload_n hC (j := 5) dL_law_784 rfl rfl ?_
  refine J_iload hC (j := 1) dL_law_785 rfl ?_
  refine J_iconst (v := 1) hC dL_law_787 (by decide) ?_
  refine J_iadd hC dL_law_788 ?_
  refine J_top (y := nI (4 * t + 1)) (nI_k1 _) ?_
  refine J_sld hC hX hbl hbA (vp_nI (by omega) (by omega)) hp1 dL_law_789 ?_
  refine J_aload_n hC (j := 5) dL_law_790 rfl rfl ?_
  refine J_iload hC (j := 1) dL_law_791 rfl ?_
  refine J_iconst (v := 2) hC dL_law_793 (by decide) ?_
  refine J_iadd hC dL_law_794 ?_
  refine J_top (y := nI (4 * t + 2)) (nI_k2 _) ?_
  refine J_sld hC hX hbl hbA (vp_nI (by omega) (by omega)) hp2 dL_law_795 ?_
  refine J_callV hC (ct_X6_cellar l G D E g S A (z1, []) p1 p2 (JJ_g2 hJ0) hJ0.2.1) mw_X6_cellar qw_862 nl_m0 ent_m0 rfl rfl rfl (Nat.le_of_ble_eq_true rfl) ⟨Nat.le_of_ble_eq_true rfl, Nat.le_of_ble_eq_true rfl⟩ ⟨by show ((124 + 280 * t) + 1) + 0 ≤ 601024; omega, by show ((1425 + 3000 * t) + 6) + 0 ≤ 7293034; omega⟩ dL_law_796 ?_
  refine J_istore (lv' := [(6, .int ((vCellarM (setT g 0) S p1 p2))), (5, .int (kCellar D p1 p2)), (4, .int (nI (4 * t))), (3, .ref (gA G 123)), (2, .ref (aX G 2 0)), (1, .ref (gA G 88)), (0, .ref b)]) hC dL_law_799 (by decide) rfl ?_
  refine J_aload_n hC (j := 4) dL_law_801 rfl rfl ?_
  refine J_callV hC (ct_X6_thrown l G D E (mCellar (setT g 0) p1 p2) S A (z1, [])) mw_X6_thrown qw_774 nl_m0 ent_m0 rfl rfl rfl (Nat.le_of_ble_eq_true rfl) ⟨Nat.le_of_ble_eq_true rfl, Nat.le_of_ble_eq_true rfl⟩ ⟨by show (((124 + 280 * t) + 1) + 0) + 0 ≤ 601024; omega, by show (((1425 + 3000 * t) + 6) + 0) + 0 ≤ 7293034; omega⟩ dL_law_802 ?_
  refine J_iload hC (j := 1) dL_law_805 rfl ?_
  refine J_icmp_eq (tgt := 812) hC dL_law_807 (by decide) (fun _ => ?_) (fun h => absurd e1.symm h)
  refine J_iload hC (j := 1) dL_law_812 rfl ?_
  refine J_if_ne (tgt := 829) hC dL_law_814 (by decide) (fun _ => ?_) (fun hk => ?_)
  · refine J_goto (tgt := 1327) hC dL_law_829 (by decide) ?_
    refine J_lv [2, 3, 4, 5, 6] (lv' := lvL G b t) rfl ?_
    refine J_widen (k := 124 + 280 * t + 280) (n := 1425 + 3000 * t + 3000) (by omega) (by omega) ?_
    exact hK D E (mCellar (setT g 0) p1 p2) S A z1 e3
  · refine J_aload_n hC (j := 3) dL_law_817 rfl rfl ?_
    refine J_iconst (v := 0) hC dL_law_818 (by decide) ?_
    refine J_lald hC (by unfold vp_in; decide) dL_law_819 ?_
    refine J_iload hC (j := 0) dL_law_820 rfl ?_
    refine J_i2l hC dL_law_822 ?_
    refine J_lcmp hC dL_law_823 ?_
    refine J_if_eq (tgt := 829) hC dL_law_824 (by decide) (fun _ => ?_) (fun h => absurd (lgc_self (by rw [← hz, if_pos hk, e2 hk])) h)
    refine J_goto (tgt := 1327) hC dL_law_829 (by decide) ?_
    refine J_lv [2, 3, 4, 5, 6] (lv' := lvL G b t) rfl ?_
    refine J_widen (k := 124 + 280 * t + 280) (n := 1425 + 3000 * t + 3000) (by omega) (by omega) ?_
    exact hK D E (mCellar (setT g 0) p1 p2) S A z1 e3
set_option maxHeartbeats 4000000 in
set_option maxRecDepth 100000 in
theorem law_at (h0 : LC p l s m meth c G b L xs) (hL : L ≤ 2048) {t : Nat} (ht : 4 * t + 4 ≤ L) {D E g S A : DD} {z : Int64} (hJ : JJ (100 * t) D g S) (hK : LK p l e s m below meth c Q G b t (124 + 280 * t + 280) (1425 + 3000 * t + 3000)) : Jd p l e room_1 s m #[Value.ref b] below meth c Q G 9 (124 + 280 * t) (1425 + 3000 * t) (mk5 D E g S A) (z, []) 832 (lvL G b t) [] := by
  obtain ⟨hC, hN, hlt, hX, hbl, hbA⟩ := h0
  have hJ0 := JJ_set hJ 0
  obtain ⟨p1, hp1⟩ : ∃ x, xs (ix (nI (4 * t + 1))) = x := ⟨_, rfl⟩
  obtain ⟨p2, hp2⟩ : ∃ x, xs (ix (nI (4 * t + 2))) = x := ⟨_, rfl⟩
  obtain ⟨e1, e2, e3⟩ := go_at (JJ_set hJ 0) rfl p1 p2
  refine J_aload_n hC (j := 3) dL_law_832 rfl rfl ?_
  refine J_aload_n hC (j := 4) dL_law_833 rfl rfl ?_
  refine J_iload hC (j := 0) dL_law_834 rfl ?_
  refine J_iconst (v := 1) hC dL_law_836 (by decide) ?_
  refine J_iadd hC dL_law_837 ?_
  refine J_top (y := nI (4 * t + 1)) (nI_k1 _) ?_
  refine J_sld hC hX hbl hbA (vp_nI (by omega) (by omega)) hp1 dL_law_838 ?_
  refine J_aload_n hC (j := 4) dL_law_839 rfl rfl ?_
  refine J_iload hC (j := 0) dL_law_840 rfl ?_
  refine J_iconst (v := 2) hC dL_law_842 (by decide) ?_
  refine J_iadd hC dL_law_843 ?_
  refine J_top (y := nI (4 * t + 2)) (nI_k2 _) ?_
  refine J_sld hC hX hbl hbA (vp_nI (by omega) (by omega)) hp2 dL_law_844 ?_
  refine J_aload_n hC (j := 1) dL_law_845 rfl rfl ?_
  refine J_callW hC hN (wt_at l hlt G D E g S A (z, []) p1 p2) qw_524 qw_27 qw_525 (n := 4) (by decide +kernel) qw_523 rfl rfl (Nat.le_of_ble_eq_true rfl) ⟨Nat.le_of_ble_eq_true rfl, Nat.le_of_ble_eq_true rfl⟩ ⟨by show (124 + 280 * t) + 1 ≤ 601024; omega, by show (1425 + 3000 * t) + 6 ≤ 7293034; omega⟩ dL_law_846 ?_
  refine J_X (X' := mk5 D E g S A) (by split <;> rfl) ?_
  refine J_o ifO ?_
  generalize hz : (if kAt D p1 p2 = 0 then (((wAt (D (28 + (ix p1))) p2)).toInt64) else z) = z1
  refine J_istore (lv' := [(5, .int (kAt D p1 p2)), (4, .int (nI (4 * t))), (3, .ref (gA G 123)), (2, .ref (aX G 2 0)), (1, .ref (gA G 88)), (0, .ref b)]) hC dL_law_849 (by decide) rfl ?_
  refine J_aload_n hC (j := 3) dL_law_851 rfl rfl ?_
  refine J_aload_n hC (j := 5) dL_law_852 rfl rfl ?_
  refine J_iload hC (j := 1) dL_law_853 rfl ?_
  refine J_iconst (v := 1) hC dL_law_855 (by decide) ?_
  refine J_iadd hC dL_law_856 ?_
  refine J_top (y := nI (4 * t + 1)) (nI_k1 _) ?_
  refine J_sld hC hX hbl hbA (vp_nI (by omega) (by omega)) hp1 dL_law_857 ?_
  refine J_aload_n hC (j := 5) dL_law_858 rfl rfl ?_
  refine J_iload hC (j := 1) dL_law_859 rfl ?_
  refine J_iconst (v := 2) hC dL_law_861 (by decide) ?_
  refine J_iadd hC dL_law_862 ?_
  refine J_top (y := nI (4 * t + 2)) (nI_k2 _) ?_
  refine J_sld hC hX hbl hbA (vp_nI (by omega) (by omega)) hp2 dL_law_863 ?_
  refine J_callV hC (ct_X6_at l G D E g S A (z1, []) p1 p2 (JJ_g2 hJ0)) mw_X6_at qw_870 nl_m0 ent_m0 rfl rfl rfl (Nat.le_of_ble_eq_true rfl) ⟨Nat.le_of_ble_eq_true rfl, Nat.le_of_ble_eq_true rfl⟩ ⟨by show ((124 + 280 * t) + 1) + 0 ≤ 601024; omega, by show ((1425 + 3000 * t) + 6) + 0 ≤ 7293034; omega⟩ dL_law_864 ?_
  refine J_istore (lv' := [(6, .int ((vAtM (setT g 0) S p1 p2))), (5, .int (kAt D p1 p2)), (4, .int (nI (4 * t))), (3, .ref (gA G 123)), (2, .ref (aX G 2 0)), (1, .ref (gA G 88)), (0, .ref b)]) hC dL_law_867 (by decide) rfl ?_
  refine J_aload_n hC (j := 4) dL_law_869 rfl rfl ?_
  refine J_callV hC (ct_X6_thrown l G D E (mAt (setT g 0) p1 p2) S A (z1, [])) mw_X6_thrown qw_774 nl_m0 ent_m0 rfl rfl rfl (Nat.le_of_ble_eq_true rfl) ⟨Nat.le_of_ble_eq_true rfl, Nat.le_of_ble_eq_true rfl⟩ ⟨by show (((124 + 280 * t) + 1) + 0) + 0 ≤ 601024; omega, by show (((1425 + 3000 * t) + 6) + 0) + 0 ≤ 7293034; omega⟩ dL_law_870 ?_
  refine J_iload hC (j := 1) dL_law_873 rfl ?_
  refine J_icmp_eq (tgt := 880) hC dL_law_875 (by decide) (fun _ => ?_) (fun h => absurd e1.symm h)
  refine J_iload hC (j := 1) dL_law_880 rfl ?_
  refine J_if_ne (tgt := 897) hC dL_law_882 (by decide) (fun _ => ?_) (fun hk => ?_)
  · refine J_goto (tgt := 1327) hC dL_law_897 (by decide) ?_
    refine J_lv [2, 3, 4, 5, 6] (lv' := lvL G b t) rfl ?_
    refine J_widen (k := 124 + 280 * t + 280) (n := 1425 + 3000 * t + 3000) (by omega) (by omega) ?_
    exact hK D E (mAt (setT g 0) p1 p2) S A z1 e3
  · refine J_aload_n hC (j := 3) dL_law_885 rfl rfl ?_
    refine J_iconst (v := 0) hC dL_law_886 (by decide) ?_
    refine J_lald hC (by unfold vp_in; decide) dL_law_887 ?_
    refine J_iload hC (j := 0) dL_law_888 rfl ?_
    refine J_i2l hC dL_law_890 ?_
    refine J_lcmp hC dL_law_891 ?_
    refine J_if_eq (tgt := 897) hC dL_law_892 (by decide) (fun _ => ?_) (fun h => absurd (lgc_self (by rw [← hz, if_pos hk, e2 hk])) h)
    refine J_goto (tgt := 1327) hC dL_law_897 (by decide) ?_
    refine J_lv [2, 3, 4, 5, 6] (lv' := lvL G b t) rfl ?_
    refine J_widen (k := 124 + 280 * t + 280) (n := 1425 + 3000 * t + 3000) (by omega) (by omega) ?_
    exact hK D E (mAt (setT g 0) p1 p2) S A z1 e3
set_option maxHeartbeats 4000000 in
set_option maxRecDepth 100000 in
theorem law_monk (h0 : LC p l s m meth c G b L xs) (hL : L ≤ 2048) {t : Nat} (ht : 4 * t + 4 ≤ L) {D E g S A : DD} {z : Int64} (hJ : JJ (100 * t) D g S) (hK : LK p l e s m below meth c Q G b t (124 + 280 * t + 280) (1425 + 3000 * t + 3000)) : Jd p l e room_1 s m #[Value.ref b] below meth c Q G 9 (124 + 280 * t) (1425 + 3000 * t) (mk5 D E g S A) (z, []) 900 (lvL G b t) [] := by
  obtain ⟨hC, hN, hlt, hX, hbl, hbA⟩ := h0
  have hJ0 := JJ_set hJ 0
  obtain ⟨p1, hp1⟩ : ∃ x, xs (ix (nI (4 * t + 1))) = x := ⟨_, rfl⟩
  obtain ⟨p2, hp2⟩ : ∃ x, xs (ix (nI (4 * t + 2))) = x := ⟨_, rfl⟩
  obtain ⟨e1, e2, e3⟩ := go_monk (JJ_set hJ 0) rfl (by omega) p1 p2
  refine J_aload_n hC (j := 3) dL_law_900 rfl rfl ?_
  refine J_aload_n hC (j := 4) dL_law_901 rfl rfl ?_
  refine J_iload hC (j := 0) dL_law_902 rfl ?_
  refine J_iconst (v := 1) hC dL_law_904 (by decide) ?_
  refine J_iadd hC dL_law_905 ?_
  refine J_top (y := nI (4 * t + 1)) (nI_k1 _) ?_
  refine J_sld hC hX hbl hbA (vp_nI (by omega) (by omega)) hp1 dL_law_906 ?_
  refine J_aload_n hC (j := 4) dL_law_907 rfl rfl ?_
  refine J_iload hC (j := 0) dL_law_908 rfl ?_
  refine J_iconst (v := 2) hC dL_law_910 (by decide) ?_
  refine J_iadd hC dL_law_911 ?_
  refine J_top (y := nI (4 * t + 2)) (nI_k2 _) ?_
  refine J_sld hC hX hbl hbA (vp_nI (by omega) (by omega)) hp2 dL_law_912 ?_
  refine J_aload_n hC (j := 1) dL_law_913 rfl rfl ?_
  refine J_callW hC hN (wt_monk l hlt G D E g S A (z, []) p1 p2) qw_531 qw_27 qw_532 (n := 4) (by decide +kernel) qw_530 rfl rfl (Nat.le_of_ble_eq_true rfl) ⟨Nat.le_of_ble_eq_true rfl, Nat.le_of_ble_eq_true rfl⟩ ⟨by show (124 + 280 * t) + 1 ≤ 601024; omega, by show (1425 + 3000 * t) + 6 ≤ 7293034; omega⟩ dL_law_914 ?_
  refine J_X (X' := mk5 D E g S A) (by split <;> rfl) ?_
  refine J_o ifO ?_
  generalize hz : (if kMonk D p1 p2 = 0 then (((mFact (D (32 + (ix p1))) (D (36 + (ix p1))) p2 (D 40 0))).toInt64) else z) = z1
  refine J_istore (lv' := [(5, .int (kMonk D p1 p2)), (4, .int (nI (4 * t))), (3, .ref (gA G 123)), (2, .ref (aX G 2 0)), (1, .ref (gA G 88)), (0, .ref b)]) hC dL_law_917 (by decide) rfl ?_
  refine J_aload_n hC (j := 3) dL_law_919 rfl rfl ?_
  refine J_aload_n hC (j := 5) dL_law_920 rfl rfl ?_
  refine J_iload hC (j := 1) dL_law_921 rfl ?_
  refine J_iconst (v := 1) hC dL_law_923 (by decide) ?_
  refine J_iadd hC dL_law_924 ?_
  refine J_top (y := nI (4 * t + 1)) (nI_k1 _) ?_
  refine J_sld hC hX hbl hbA (vp_nI (by omega) (by omega)) hp1 dL_law_925 ?_
  refine J_aload_n hC (j := 5) dL_law_926 rfl rfl ?_
  refine J_iload hC (j := 1) dL_law_927 rfl ?_
  refine J_iconst (v := 2) hC dL_law_929 (by decide) ?_
  refine J_iadd hC dL_law_930 ?_
  refine J_top (y := nI (4 * t + 2)) (nI_k2 _) ?_
  refine J_sld hC hX hbl hbA (vp_nI (by omega) (by omega)) hp2 dL_law_931 ?_
  refine J_callV hC (ct_X6_monk l G D E g S A (z1, []) p1 p2 (JJ_g2 hJ0) (DY_nn hJ0.2.2.2.2 (by omega))) mw_X6_monk qw_874 nl_m0 ent_m0 rfl rfl rfl (Nat.le_of_ble_eq_true rfl) ⟨Nat.le_of_ble_eq_true rfl, Nat.le_of_ble_eq_true rfl⟩ ⟨by show ((124 + 280 * t) + 1) + 0 ≤ 601024; omega, by show ((1425 + 3000 * t) + 6) + 0 ≤ 7293034; omega⟩ dL_law_932 ?_
  refine J_istore (lv' := [(6, .int ((vMonkM (setT g 0) S p1 p2))), (5, .int (kMonk D p1 p2)), (4, .int (nI (4 * t))), (3, .ref (gA G 123)), (2, .ref (aX G 2 0)), (1, .ref (gA G 88)), (0, .ref b)]) hC dL_law_935 (by decide) rfl ?_
  refine J_aload_n hC (j := 4) dL_law_937 rfl rfl ?_
  refine J_callV hC (ct_X6_thrown l G D E (mMonk (setT g 0) p1 p2) S A (z1, [])) mw_X6_thrown qw_774 nl_m0 ent_m0 rfl rfl rfl (Nat.le_of_ble_eq_true rfl) ⟨Nat.le_of_ble_eq_true rfl, Nat.le_of_ble_eq_true rfl⟩ ⟨by show (((124 + 280 * t) + 1) + 0) + 0 ≤ 601024; omega, by show (((1425 + 3000 * t) + 6) + 0) + 0 ≤ 7293034; omega⟩ dL_law_938 ?_
  refine J_iload hC (j := 1) dL_law_941 rfl ?_
  refine J_icmp_eq (tgt := 948) hC dL_law_943 (by decide) (fun _ => ?_) (fun h => absurd e1.symm h)
  refine J_iload hC (j := 1) dL_law_948 rfl ?_
  refine J_if_ne (tgt := 965) hC dL_law_950 (by decide) (fun _ => ?_) (fun hk => ?_)
  · refine J_goto (tgt := 1327) hC dL_law_965 (by decide) ?_
    refine J_lv [2, 3, 4, 5, 6] (lv' := lvL G b t) rfl ?_
    refine J_widen (k := 124 + 280 * t + 280) (n := 1425 + 3000 * t + 3000) (by omega) (by omega) ?_
    exact hK D E (mMonk (setT g 0) p1 p2) S A z1 e3
  · refine J_aload_n hC (j := 3) dL_law_953 rfl rfl ?_
    refine J_iconst (v := 0) hC dL_law_954 (by decide) ?_
    refine J_lald hC (by unfold vp_in; decide) dL_law_955 ?_
    refine J_iload hC (j := 0) dL_law_956 rfl ?_
    refine J_i2l hC dL_law_958 ?_
    refine J_lcmp hC dL_law_959 ?_
    refine J_if_eq (tgt := 965) hC dL_law_960 (by decide) (fun _ => ?_) (fun h => absurd (lgc_self (by rw [← hz, if_pos hk, e2 hk])) h)
    refine J_goto (tgt := 1327) hC dL_law_965 (by decide) ?_
    refine J_lv [2, 3, 4, 5, 6] (lv' := lvL G b t) rfl ?_
    refine J_widen (k := 124 + 280 * t + 280) (n := 1425 + 3000 * t + 3000) (by omega) (by omega) ?_
    exact hK D E (mMonk (setT g 0) p1 p2) S A z1 e3
set_option maxHeartbeats 4000000 in
set_option maxRecDepth 100000 in
theorem law_count (h0 : LC p l s m meth c G b L xs) (hL : L ≤ 2048) {t : Nat} (ht : 4 * t + 4 ≤ L) {D E g S A : DD} {z : Int64} (hJ : JJ (100 * t) D g S) (hK : LK p l e s m below meth c Q G b t (124 + 280 * t + 280) (1425 + 3000 * t + 3000)) : Jd p l e room_1 s m #[Value.ref b] below meth c Q G 9 (124 + 280 * t) (1425 + 3000 * t) (mk5 D E g S A) (z, []) 968 (lvL G b t) [] := by
  obtain ⟨hC, hN, hlt, hX, hbl, hbA⟩ := h0
  have hJ0 := JJ_set hJ 0
  obtain ⟨p1, hp1⟩ : ∃ x, xs (ix (nI (4 * t + 1))) = x := ⟨_, rfl⟩
  obtain ⟨e1, e2, e3⟩ := go_count (JJ_set hJ 0) rfl p1
  refine J_aload_n hC (j := 3) dL_law_968 rfl rfl ?_
  refine J_aload_n hC (j := 4) dL_law_969 rfl rfl ?_
  refine J_iload hC (j := 0) dL_law_970 rfl ?_
  refine J_iconst (v := 1) hC dL_law_972 (by decide) ?_
  refine J_iadd hC dL_law_973 ?_
  refine J_top (y := nI (4 * t + 1)) (nI_k1 _) ?_
  refine J_sld hC hX hbl hbA (vp_nI (by omega) (by omega)) hp1 dL_law_974 ?_
  refine J_aload_n hC (j := 1) dL_law_975 rfl rfl ?_
  refine J_callW hC hN (wt_count l hlt G D E g S A (z, []) p1) qw_539 qw_27 qw_540 (n := 3) (by decide +kernel) qw_538 rfl rfl (Nat.le_of_ble_eq_true rfl) ⟨Nat.le_of_ble_eq_true rfl, Nat.le_of_ble_eq_true rfl⟩ ⟨by show (124 + 280 * t) + 1 ≤ 601024; omega, by show (1425 + 3000 * t) + 6 ≤ 7293034; omega⟩ dL_law_976 ?_
  refine J_X (X' := mk5 D E g S A) (by split <;> rfl) ?_
  refine J_o ifO ?_
  generalize hz : (if kCount D p1 = 0 then (((dFact D p1)).toInt64) else z) = z1
  refine J_istore (lv' := [(5, .int (kCount D p1)), (4, .int (nI (4 * t))), (3, .ref (gA G 123)), (2, .ref (aX G 2 0)), (1, .ref (gA G 88)), (0, .ref b)]) hC dL_law_979 (by decide) rfl ?_
  refine J_aload_n hC (j := 3) dL_law_981 rfl rfl ?_
  refine J_aload_n hC (j := 5) dL_law_982 rfl rfl ?_
  refine J_iload hC (j := 1) dL_law_983 rfl ?_
  refine J_iconst (v := 1) hC dL_law_985 (by decide) ?_
  refine J_iadd hC dL_law_986 ?_
  refine J_top (y := nI (4 * t + 1)) (nI_k1 _) ?_
  refine J_sld hC hX hbl hbA (vp_nI (by omega) (by omega)) hp1 dL_law_987 ?_
  refine J_callV hC (ct_X6_count l G D E g S A (z1, []) p1 (JJ_g2 hJ0)) mw_X6_count qw_882 nl_m0 ent_m0 rfl rfl rfl (Nat.le_of_ble_eq_true rfl) ⟨Nat.le_of_ble_eq_true rfl, Nat.le_of_ble_eq_true rfl⟩ ⟨by show ((124 + 280 * t) + 1) + 1 ≤ 601024; omega, by show ((1425 + 3000 * t) + 6) + 9 ≤ 7293034; omega⟩ dL_law_988 ?_
  refine J_istore (lv' := [(6, .int ((vCountM (setT g 0) S p1))), (5, .int (kCount D p1)), (4, .int (nI (4 * t))), (3, .ref (gA G 123)), (2, .ref (aX G 2 0)), (1, .ref (gA G 88)), (0, .ref b)]) hC dL_law_991 (by decide) rfl ?_
  refine J_aload_n hC (j := 4) dL_law_993 rfl rfl ?_
  refine J_callV hC (ct_X6_thrown l G D E (mCount (setT g 0) p1) S A (z1, [])) mw_X6_thrown qw_774 nl_m0 ent_m0 rfl rfl rfl (Nat.le_of_ble_eq_true rfl) ⟨Nat.le_of_ble_eq_true rfl, Nat.le_of_ble_eq_true rfl⟩ ⟨by show (((124 + 280 * t) + 1) + 1) + 0 ≤ 601024; omega, by show (((1425 + 3000 * t) + 6) + 9) + 0 ≤ 7293034; omega⟩ dL_law_994 ?_
  refine J_iload hC (j := 1) dL_law_997 rfl ?_
  refine J_icmp_eq (tgt := 1004) hC dL_law_999 (by decide) (fun _ => ?_) (fun h => absurd e1.symm h)
  refine J_iload hC (j := 1) dL_law_1004 rfl ?_
  refine J_if_ne (tgt := 1021) hC dL_law_1006 (by decide) (fun _ => ?_) (fun hk => ?_)
  · refine J_goto (tgt := 1327) hC dL_law_1021 (by decide) ?_
    refine J_lv [2, 3, 4, 5, 6] (lv' := lvL G b t) rfl ?_
    refine J_widen (k := 124 + 280 * t + 280) (n := 1425 + 3000 * t + 3000) (by omega) (by omega) ?_
    exact hK D E (mCount (setT g 0) p1) S A z1 e3
  · refine J_aload_n hC (j := 3) dL_law_1009 rfl rfl ?_
    refine J_iconst (v := 0) hC dL_law_1010 (by decide) ?_
    refine J_lald hC (by unfold vp_in; decide) dL_law_1011 ?_
    refine J_iload hC (j := 0) dL_law_1012 rfl ?_
    refine J_i2l hC dL_law_1014 ?_
    refine J_lcmp hC dL_law_1015 ?_
    refine J_if_eq (tgt := 1021) hC dL_law_1016 (by decide) (fun _ => ?_) (fun h => absurd (lgc_self (by rw [← hz, if_pos hk, e2 hk])) h)
    refine J_goto (tgt := 1327) hC dL_law_1021 (by decide) ?_
    refine J_lv [2, 3, 4, 5, 6] (lv' := lvL G b t) rfl ?_
    refine J_widen (k := 124 + 280 * t + 280) (n := 1425 + 3000 * t + 3000) (by omega) (by omega) ?_
    exact hK D E (mCount (setT g 0) p1) S A z1 e3
set_option maxHeartbeats 4000000 in
set_option maxRecDepth 100000 in
theorem law_pass (h0 : LC p l s m meth c G b L xs) (hL : L ≤ 2048) {t : Nat} (ht : 4 * t + 4 ≤ L) {D E g S A : DD} {z : Int64} (hJ : JJ (100 * t) D g S) (hK : LK p l e s m below meth c Q G b t (124 + 280 * t + 280) (1425 + 3000 * t + 3000)) : Jd p l e room_1 s m #[Value.ref b] below meth c Q G 9 (124 + 280 * t) (1425 + 3000 * t) (mk5 D E g S A) (z, []) 1024 (lvL G b t) [] := by
  obtain ⟨hC, hN, hlt, hX, hbl, hbA⟩ := h0
  have hJ0 := JJ_set hJ 0
  obtain ⟨p1, hp1⟩ : ∃ x, xs (ix (nI (4 * t + 1))) = x := ⟨_, rfl⟩
  obtain ⟨e1, e2, e3⟩ := go_pass (JJ_set hJ 0) rfl (by omega) p1
  refine J_aload_n hC (j := 3) dL_law_1024 rfl rfl ?_
  refine J_aload_n hC (j := 4) dL_law_1025 rfl rfl ?_
  refine J_iload hC (j := 0) dL_law_1026 rfl ?_
  refine J_iconst (v := 1) hC dL_law_1028 (by decide) ?_
  refine J_iadd hC dL_law_1029 ?_
  refine J_top (y := nI (4 * t + 1)) (nI_k1 _) ?_
  refine J_sld hC hX hbl hbA (vp_nI (by omega) (by omega)) hp1 dL_law_1030 ?_
  refine J_aload_n hC (j := 1) dL_law_1031 rfl rfl ?_
  refine J_callW hC hN (wt_pass l hlt G D E g S A (z, []) p1) qw_547 qw_27 qw_548 (n := 3) (by decide +kernel) qw_546 rfl rfl (Nat.le_of_ble_eq_true rfl) ⟨Nat.le_of_ble_eq_true rfl, Nat.le_of_ble_eq_true rfl⟩ ⟨by show (124 + 280 * t) + 1 ≤ 601024; omega, by show (1425 + 3000 * t) + 6 ≤ 7293034; omega⟩ dL_law_1032 ?_
  refine J_X ifD ?_
  generalize hD1 : (if kPass D p1 = 0 then (days D (ix p1)) else D) = D1 at e3 ⊢
  refine J_o ifO ?_
  generalize hz : (if kPass D p1 = 0 then ((((cntSt (days D (ix p1)) 2 24) - (cntSt D 2 24))).toInt64) else z) = z1
  refine J_istore (lv' := [(5, .int (kPass D p1)), (4, .int (nI (4 * t))), (3, .ref (gA G 123)), (2, .ref (aX G 2 0)), (1, .ref (gA G 88)), (0, .ref b)]) hC dL_law_1035 (by decide) rfl ?_
  refine J_aload_n hC (j := 3) dL_law_1037 rfl rfl ?_
  refine J_aload_n hC (j := 5) dL_law_1038 rfl rfl ?_
  refine J_iload hC (j := 1) dL_law_1039 rfl ?_
  refine J_iconst (v := 1) hC dL_law_1041 (by decide) ?_
  refine J_iadd hC dL_law_1042 ?_
  refine J_top (y := nI (4 * t + 1)) (nI_k1 _) ?_
  refine J_sld hC hX hbl hbA (vp_nI (by omega) (by omega)) hp1 dL_law_1043 ?_
  refine J_callV hC (ct_X6_pass l G D1 E g S A (z1, []) p1 (JJ_g2 hJ0) hJ0.2.1 (100 * t) hJ0.2.2.2.2 (by omega)) mw_X6_pass qw_898 nl_m0 ent_m0 rfl rfl rfl (Nat.le_of_ble_eq_true rfl) ⟨Nat.le_of_ble_eq_true rfl, Nat.le_of_ble_eq_true rfl⟩ ⟨by show ((124 + 280 * t) + 1) + 0 ≤ 601024; omega, by show ((1425 + 3000 * t) + 6) + 0 ≤ 7293034; omega⟩ dL_law_1044 ?_
  refine J_istore (lv' := [(6, .int ((vPassM (setT g 0) S p1))), (5, .int (kPass D p1)), (4, .int (nI (4 * t))), (3, .ref (gA G 123)), (2, .ref (aX G 2 0)), (1, .ref (gA G 88)), (0, .ref b)]) hC dL_law_1047 (by decide) rfl ?_
  refine J_aload_n hC (j := 4) dL_law_1049 rfl rfl ?_
  refine J_callV hC (ct_X6_thrown l G D1 E (mPass (setT g 0) p1) (sPass (setT g 0) S p1) A (z1, [])) mw_X6_thrown qw_774 nl_m0 ent_m0 rfl rfl rfl (Nat.le_of_ble_eq_true rfl) ⟨Nat.le_of_ble_eq_true rfl, Nat.le_of_ble_eq_true rfl⟩ ⟨by show (((124 + 280 * t) + 1) + 0) + 0 ≤ 601024; omega, by show (((1425 + 3000 * t) + 6) + 0) + 0 ≤ 7293034; omega⟩ dL_law_1050 ?_
  refine J_iload hC (j := 1) dL_law_1053 rfl ?_
  refine J_icmp_eq (tgt := 1060) hC dL_law_1055 (by decide) (fun _ => ?_) (fun h => absurd e1.symm h)
  refine J_iload hC (j := 1) dL_law_1060 rfl ?_
  refine J_if_ne (tgt := 1077) hC dL_law_1062 (by decide) (fun _ => ?_) (fun hk => ?_)
  · refine J_goto (tgt := 1327) hC dL_law_1077 (by decide) ?_
    refine J_lv [2, 3, 4, 5, 6] (lv' := lvL G b t) rfl ?_
    refine J_widen (k := 124 + 280 * t + 280) (n := 1425 + 3000 * t + 3000) (by omega) (by omega) ?_
    exact hK D1 E (mPass (setT g 0) p1) (sPass (setT g 0) S p1) A z1 e3
  · refine J_aload_n hC (j := 3) dL_law_1065 rfl rfl ?_
    refine J_iconst (v := 0) hC dL_law_1066 (by decide) ?_
    refine J_lald hC (by unfold vp_in; decide) dL_law_1067 ?_
    refine J_iload hC (j := 0) dL_law_1068 rfl ?_
    refine J_i2l hC dL_law_1070 ?_
    refine J_lcmp hC dL_law_1071 ?_
    refine J_if_eq (tgt := 1077) hC dL_law_1072 (by decide) (fun _ => ?_) (fun h => absurd (lgc_self (by rw [← hz, if_pos hk, e2 hk])) h)
    refine J_goto (tgt := 1327) hC dL_law_1077 (by decide) ?_
    refine J_lv [2, 3, 4, 5, 6] (lv' := lvL G b t) rfl ?_
    refine J_widen (k := 124 + 280 * t + 280) (n := 1425 + 3000 * t + 3000) (by omega) (by omega) ?_
    exact hK D1 E (mPass (setT g 0) p1) (sPass (setT g 0) S p1) A z1 e3
set_option maxHeartbeats 4000000 in
set_option maxRecDepth 100000 in
theorem law_best (h0 : LC p l s m meth c G b L xs) (hL : L ≤ 2048) {t : Nat} (ht : 4 * t + 4 ≤ L) {D E g S A : DD} {z : Int64} (hJ : JJ (100 * t) D g S) (hK : LK p l e s m below meth c Q G b t (124 + 280 * t + 280) (1425 + 3000 * t + 3000)) : Jd p l e room_1 s m #[Value.ref b] below meth c Q G 9 (124 + 280 * t) (1425 + 3000 * t) (mk5 D E g S A) (z, []) 1080 (lvL G b t) [] := by
  obtain ⟨hC, hN, hlt, hX, hbl, hbA⟩ := h0
  have hJ0 := JJ_set hJ 0
  obtain ⟨p1, hp1⟩ : ∃ x, xs (ix (nI (4 * t + 1))) = x := ⟨_, rfl⟩
  obtain ⟨e1, e2, e3⟩ := go_best (JJ_set hJ 0) rfl (by omega) E A p1
  refine J_aload_n hC (j := 3) dL_law_1080 rfl rfl ?_
  refine J_aload_n hC (j := 4) dL_law_1081 rfl rfl ?_
  refine J_iload hC (j := 0) dL_law_1082 rfl ?_
  refine J_iconst (v := 1) hC dL_law_1084 (by decide) ?_
  refine J_iadd hC dL_law_1085 ?_
  refine J_top (y := nI (4 * t + 1)) (nI_k1 _) ?_
  refine J_sld hC hX hbl hbA (vp_nI (by omega) (by omega)) hp1 dL_law_1086 ?_
  refine J_aload_n hC (j := 1) dL_law_1087 rfl rfl ?_
  refine J_callW hC hN (wt_best l hlt G D E g S A (z, []) p1) qw_610 qw_27 qw_611 (n := 3) (by decide +kernel) qw_609 rfl rfl (Nat.le_of_ble_eq_true rfl) ⟨Nat.le_of_ble_eq_true rfl, Nat.le_of_ble_eq_true rfl⟩ ⟨by show (124 + 280 * t) + 1 ≤ 601024; omega, by show (1425 + 3000 * t) + 6 ≤ 7293034; omega⟩ dL_law_1088 ?_
  refine J_X ifE ?_
  generalize (if kBest D p1 = 0 then (eBest D E p1) else E) = E1
  refine J_o ifO ?_
  generalize hz : (if kBest D p1 = 0 then (((vBest D E p1)).toInt64) else z) = z1
  refine J_istore (lv' := [(5, .int (kBest D p1)), (4, .int (nI (4 * t))), (3, .ref (gA G 123)), (2, .ref (aX G 2 0)), (1, .ref (gA G 88)), (0, .ref b)]) hC dL_law_1091 (by decide) rfl ?_
  refine J_aload_n hC (j := 3) dL_law_1093 rfl rfl ?_
  refine J_aload_n hC (j := 5) dL_law_1094 rfl rfl ?_
  refine J_iload hC (j := 1) dL_law_1095 rfl ?_
  refine J_iconst (v := 1) hC dL_law_1097 (by decide) ?_
  refine J_iadd hC dL_law_1098 ?_
  refine J_top (y := nI (4 * t + 1)) (nI_k1 _) ?_
  refine J_sld hC hX hbl hbA (vp_nI (by omega) (by omega)) hp1 dL_law_1099 ?_
  refine J_callV hC (ct_X6_best l G D E1 g S A (z1, []) p1 (JJ_g2 hJ0) hJ0.2.1 (100 * t) hJ0.2.2.2.2 (by omega)) mw_X6_best qw_937 nl_m0 ent_m0 rfl rfl rfl (Nat.le_of_ble_eq_true rfl) ⟨Nat.le_of_ble_eq_true rfl, Nat.le_of_ble_eq_true rfl⟩ ⟨by show ((124 + 280 * t) + 1) + 0 ≤ 601024; omega, by show ((1425 + 3000 * t) + 6) + 0 ≤ 7293034; omega⟩ dL_law_1100 ?_
  refine J_istore (lv' := [(6, .int ((vBestM (setT g 0) S A p1))), (5, .int (kBest D p1)), (4, .int (nI (4 * t))), (3, .ref (gA G 123)), (2, .ref (aX G 2 0)), (1, .ref (gA G 88)), (0, .ref b)]) hC dL_law_1103 (by decide) rfl ?_
  refine J_aload_n hC (j := 4) dL_law_1105 rfl rfl ?_
  refine J_callV hC (ct_X6_thrown l G D E1 (mBest (setT g 0) p1) S (aBest (setT g 0) S A p1) (z1, [])) mw_X6_thrown qw_774 nl_m0 ent_m0 rfl rfl rfl (Nat.le_of_ble_eq_true rfl) ⟨Nat.le_of_ble_eq_true rfl, Nat.le_of_ble_eq_true rfl⟩ ⟨by show (((124 + 280 * t) + 1) + 0) + 0 ≤ 601024; omega, by show (((1425 + 3000 * t) + 6) + 0) + 0 ≤ 7293034; omega⟩ dL_law_1106 ?_
  refine J_iload hC (j := 1) dL_law_1109 rfl ?_
  refine J_icmp_eq (tgt := 1116) hC dL_law_1111 (by decide) (fun _ => ?_) (fun h => absurd e1.symm h)
  refine J_iload hC (j := 1) dL_law_1116 rfl ?_
  refine J_if_ne (tgt := 1133) hC dL_law_1118 (by decide) (fun _ => ?_) (fun hk => ?_)
  · refine J_goto (tgt := 1327) hC dL_law_1133 (by decide) ?_
    refine J_lv [2, 3, 4, 5, 6] (lv' := lvL G b t) rfl ?_
    refine J_widen (k := 124 + 280 * t + 280) (n := 1425 + 3000 * t + 3000) (by omega) (by omega) ?_
    exact hK D E1 (mBest (setT g 0) p1) S (aBest (setT g 0) S A p1) z1 e3
  · refine J_aload_n hC (j := 3) dL_law_1121 rfl rfl ?_
    refine J_iconst (v := 0) hC dL_law_1122 (by decide) ?_
    refine J_lald hC (by unfold vp_in; decide) dL_law_1123 ?_
    refine J_iload hC (j := 0) dL_law_1124 rfl ?_
    refine J_i2l hC dL_law_1126 ?_
    refine J_lcmp hC dL_law_1127 ?_
    refine J_if_eq (tgt := 1133) hC dL_law_1128 (by decide) (fun _ => ?_) (fun h => absurd (lgc_self (by rw [← hz, if_pos hk, e2 hk])) h)
    refine J_goto (tgt := 1327) hC dL_law_1133 (by decide) ?_
    refine J_lv [2, 3, 4, 5, 6] (lv' := lvL G b t) rfl ?_
    refine J_widen (k := 124 + 280 * t + 280) (n := 1425 + 3000 * t + 3000) (by omega) (by omega) ?_
    exact hK D E1 (mBest (setT g 0) p1) S (aBest (setT g 0) S A p1) z1 e3
set_option maxHeartbeats 4000000 in
set_option maxRecDepth 100000 in
theorem law_foresee (h0 : LC p l s m meth c G b L xs) (hL : L ≤ 2048) {t : Nat} (ht : 4 * t + 4 ≤ L) {D E g S A : DD} {z : Int64} (hJ : JJ (100 * t) D g S) (hK : LK p l e s m below meth c Q G b t (124 + 280 * t + 280) (1425 + 3000 * t + 3000)) : Jd p l e room_1 s m #[Value.ref b] below meth c Q G 9 (124 + 280 * t) (1425 + 3000 * t) (mk5 D E g S A) (z, []) 1136 (lvL G b t) [] := by
  obtain ⟨hC, hN, hlt, hX, hbl, hbA⟩ := h0
  have hJ0 := JJ_set hJ 0
  obtain ⟨p1, hp1⟩ : ∃ x, xs (ix (nI (4 * t + 1))) = x := ⟨_, rfl⟩
  obtain ⟨p2, hp2⟩ : ∃ x, xs (ix (nI (4 * t + 2))) = x := ⟨_, rfl⟩
  obtain ⟨e1, e2, e3⟩ := go_foresee (JJ_set hJ 0) rfl (by omega) E A p1 p2
  refine J_aload_n hC (j := 3) dL_law_1136 rfl rfl ?_
  refine J_aload_n hC (j := 4) dL_law_1137 rfl rfl ?_
  refine J_iload hC (j := 0) dL_law_1138 rfl ?_
  refine J_iconst (v := 1) hC dL_law_1140 (by decide) ?_
  refine J_iadd hC dL_law_1141 ?_
  refine J_top (y := nI (4 * t + 1)) (nI_k1 _) ?_
  refine J_sld hC hX hbl hbA (vp_nI (by omega) (by omega)) hp1 dL_law_1142 ?_
  refine J_aload_n hC (j := 4) dL_law_1143 rfl rfl ?_
  refine J_iload hC (j := 0) dL_law_1144 rfl ?_
  refine J_iconst (v := 2) hC dL_law_1146 (by decide) ?_
  refine J_iadd hC dL_law_1147 ?_
  refine J_top (y := nI (4 * t + 2)) (nI_k2 _) ?_
  refine J_sld hC hX hbl hbA (vp_nI (by omega) (by omega)) hp2 dL_law_1148 ?_
  refine J_aload_n hC (j := 1) dL_law_1149 rfl rfl ?_
  refine J_callW hC hN (wt_foresee l hlt G D E g S A (z, []) p1 p2) qw_635 qw_27 qw_636 (n := 4) (by decide +kernel) qw_634 rfl rfl (Nat.le_of_ble_eq_true rfl) ⟨Nat.le_of_ble_eq_true rfl, Nat.le_of_ble_eq_true rfl⟩ ⟨by show (124 + 280 * t) + 1 ≤ 601024; omega, by show (1425 + 3000 * t) + 6 ≤ 7293034; omega⟩ dL_law_1150 ?_
  refine J_X ifE ?_
  generalize (if kForesee D p1 p2 = 0 then (days (cpD E D) (ix p1)) else E) = E1
  refine J_o ifO ?_
  generalize hz : (if kForesee D p1 p2 = 0 then (((vForesee (days (cpD E D) (ix p1)) p2)).toInt64) else z) = z1
  refine J_istore (lv' := [(5, .int (kForesee D p1 p2)), (4, .int (nI (4 * t))), (3, .ref (gA G 123)), (2, .ref (aX G 2 0)), (1, .ref (gA G 88)), (0, .ref b)]) hC dL_law_1153 (by decide) rfl ?_
  refine J_aload_n hC (j := 3) dL_law_1155 rfl rfl ?_
  refine J_aload_n hC (j := 5) dL_law_1156 rfl rfl ?_
  refine J_iload hC (j := 1) dL_law_1157 rfl ?_
  refine J_iconst (v := 1) hC dL_law_1159 (by decide) ?_
  refine J_iadd hC dL_law_1160 ?_
  refine J_top (y := nI (4 * t + 1)) (nI_k1 _) ?_
  refine J_sld hC hX hbl hbA (vp_nI (by omega) (by omega)) hp1 dL_law_1161 ?_
  refine J_aload_n hC (j := 5) dL_law_1162 rfl rfl ?_
  refine J_iload hC (j := 1) dL_law_1163 rfl ?_
  refine J_iconst (v := 2) hC dL_law_1165 (by decide) ?_
  refine J_iadd hC dL_law_1166 ?_
  refine J_top (y := nI (4 * t + 2)) (nI_k2 _) ?_
  refine J_sld hC hX hbl hbA (vp_nI (by omega) (by omega)) hp2 dL_law_1167 ?_
  refine J_callV hC (ct_X6_foresee l G D E1 g S A (z1, []) p1 p2 (JJ_g2 hJ0) hJ0.2.1 (100 * t) hJ0.2.2.2.2 (by omega)) mw_X6_foresee qw_958 nl_m0 ent_m0 rfl rfl rfl (Nat.le_of_ble_eq_true rfl) ⟨Nat.le_of_ble_eq_true rfl, Nat.le_of_ble_eq_true rfl⟩ ⟨by show ((124 + 280 * t) + 1) + 0 ≤ 601024; omega, by show ((1425 + 3000 * t) + 6) + 0 ≤ 7293034; omega⟩ dL_law_1168 ?_
  refine J_istore (lv' := [(6, .int ((vForeM (setT g 0) S A p1 p2))), (5, .int (kForesee D p1 p2)), (4, .int (nI (4 * t))), (3, .ref (gA G 123)), (2, .ref (aX G 2 0)), (1, .ref (gA G 88)), (0, .ref b)]) hC dL_law_1171 (by decide) rfl ?_
  refine J_aload_n hC (j := 4) dL_law_1173 rfl rfl ?_
  refine J_callV hC (ct_X6_thrown l G D E1 (mFore (setT g 0) p1 p2) S (aFore (setT g 0) S A p1 p2) (z1, [])) mw_X6_thrown qw_774 nl_m0 ent_m0 rfl rfl rfl (Nat.le_of_ble_eq_true rfl) ⟨Nat.le_of_ble_eq_true rfl, Nat.le_of_ble_eq_true rfl⟩ ⟨by show (((124 + 280 * t) + 1) + 0) + 0 ≤ 601024; omega, by show (((1425 + 3000 * t) + 6) + 0) + 0 ≤ 7293034; omega⟩ dL_law_1174 ?_
  refine J_iload hC (j := 1) dL_law_1177 rfl ?_
  refine J_icmp_eq (tgt := 1184) hC dL_law_1179 (by decide) (fun _ => ?_) (fun h => absurd e1.symm h)
  refine J_iload hC (j := 1) dL_law_1184 rfl ?_
  refine J_if_ne (tgt := 1201) hC dL_law_1186 (by decide) (fun _ => ?_) (fun hk => ?_)
  · refine J_goto (tgt := 1327) hC dL_law_1201 (by decide) ?_
    refine J_lv [2, 3, 4, 5, 6] (lv' := lvL G b t) rfl ?_
    refine J_widen (k := 124 + 280 * t + 280) (n := 1425 + 3000 * t + 3000) (by omega) (by omega) ?_
    exact hK D E1 (mFore (setT g 0) p1 p2) S (aFore (setT g 0) S A p1 p2) z1 e3
  · refine J_aload_n hC (j := 3) dL_law_1189 rfl rfl ?_
    refine J_iconst (v := 0) hC dL_law_1190 (by decide) ?_
    refine J_lald hC (by unfold vp_in; decide) dL_law_1191 ?_
    refine J_iload hC (j := 0) dL_law_1192 rfl ?_
    refine J_i2l hC dL_law_1194 ?_
    refine J_lcmp hC dL_law_1195 ?_
    refine J_if_eq (tgt := 1201) hC dL_law_1196 (by decide) (fun _ => ?_) (fun h => absurd (lgc_self (by rw [← hz, if_pos hk, e2 hk])) h)
    refine J_goto (tgt := 1327) hC dL_law_1201 (by decide) ?_
    refine J_lv [2, 3, 4, 5, 6] (lv' := lvL G b t) rfl ?_
    refine J_widen (k := 124 + 280 * t + 280) (n := 1425 + 3000 * t + 3000) (by omega) (by omega) ?_
    exact hK D E1 (mFore (setT g 0) p1 p2) S (aFore (setT g 0) S A p1 p2) z1 e3
set_option maxHeartbeats 4000000 in
set_option maxRecDepth 100000 in
theorem law_advise (h0 : LC p l s m meth c G b L xs) (hL : L ≤ 2048) {t : Nat} (ht : 4 * t + 4 ≤ L) {D E g S A : DD} {z : Int64} (hJ : JJ (100 * t) D g S) (hK : LK p l e s m below meth c Q G b t (124 + 280 * t + 280) (1425 + 3000 * t + 3000)) : Jd p l e room_1 s m #[Value.ref b] below meth c Q G 9 (124 + 280 * t) (1425 + 3000 * t) (mk5 D E g S A) (z, []) 1204 (lvL G b t) [] := by
  obtain ⟨hC, hN, hlt, hX, hbl, hbA⟩ := h0
  have hJ0 := JJ_set hJ 0
  obtain ⟨p1, hp1⟩ : ∃ x, xs (ix (nI (4 * t + 1))) = x := ⟨_, rfl⟩
  obtain ⟨p2, hp2⟩ : ∃ x, xs (ix (nI (4 * t + 2))) = x := ⟨_, rfl⟩
  obtain ⟨e1, e2, e3⟩ := go_advise (JJ_set hJ 0) rfl (by omega) E A p1 p2
  refine J_aload_n hC (j := 3) dL_law_1204 rfl rfl ?_
  refine J_aload_n hC (j := 4) dL_law_1205 rfl rfl ?_
  refine J_iload hC (j := 0) dL_law_1206 rfl ?_
  refine J_iconst (v := 1) hC dL_law_1208 (by decide) ?_
  refine J_iadd hC dL_law_1209 ?_
  refine J_top (y := nI (4 * t + 1)) (nI_k1 _) ?_
  refine J_sld hC hX hbl hbA (vp_nI (by omega) (by omega)) hp1 dL_law_1210 ?_
  refine J_aload_n hC (j := 4) dL_law_1211 rfl rfl ?_
  refine J_iload hC (j := 0) dL_law_1212 rfl ?_
  refine J_iconst (v := 2) hC dL_law_1214 (by decide) ?_
  refine J_iadd hC dL_law_1215 ?_
  refine J_top (y := nI (4 * t + 2)) (nI_k2 _) ?_
  refine J_sld hC hX hbl hbA (vp_nI (by omega) (by omega)) hp2 dL_law_1216 ?_
  refine J_aload_n hC (j := 1) dL_law_1217 rfl rfl ?_
  refine J_callW hC hN (wt_advise l hlt G D E g S A (z, []) p1 p2) qw_644 qw_27 qw_645 (n := 4) (by decide +kernel) qw_643 rfl rfl (Nat.le_of_ble_eq_true rfl) ⟨Nat.le_of_ble_eq_true rfl, Nat.le_of_ble_eq_true rfl⟩ ⟨by show (124 + 280 * t) + 1 ≤ 601024; omega, by show (1425 + 3000 * t) + 6 ≤ 7293034; omega⟩ dL_law_1218 ?_
  refine J_X ifE ?_
  generalize (if kAdvise D p1 p2 = 0 then ((advL D E p1 p2 4).1) else E) = E1
  refine J_o ifO ?_
  generalize hz : (if kAdvise D p1 p2 = 0 then (((advL D E p1 p2 4).2.2).toInt64) else z) = z1
  refine J_istore (lv' := [(5, .int (kAdvise D p1 p2)), (4, .int (nI (4 * t))), (3, .ref (gA G 123)), (2, .ref (aX G 2 0)), (1, .ref (gA G 88)), (0, .ref b)]) hC dL_law_1221 (by decide) rfl ?_
  refine J_aload_n hC (j := 3) dL_law_1223 rfl rfl ?_
  refine J_aload_n hC (j := 5) dL_law_1224 rfl rfl ?_
  refine J_iload hC (j := 1) dL_law_1225 rfl ?_
  refine J_iconst (v := 1) hC dL_law_1227 (by decide) ?_
  refine J_iadd hC dL_law_1228 ?_
  refine J_top (y := nI (4 * t + 1)) (nI_k1 _) ?_
  refine J_sld hC hX hbl hbA (vp_nI (by omega) (by omega)) hp1 dL_law_1229 ?_
  refine J_aload_n hC (j := 5) dL_law_1230 rfl rfl ?_
  refine J_iload hC (j := 1) dL_law_1231 rfl ?_
  refine J_iconst (v := 2) hC dL_law_1233 (by decide) ?_
  refine J_iadd hC dL_law_1234 ?_
  refine J_top (y := nI (4 * t + 2)) (nI_k2 _) ?_
  refine J_sld hC hX hbl hbA (vp_nI (by omega) (by omega)) hp2 dL_law_1235 ?_
  refine J_callV hC (ct_X6_advise l G D E1 g S A (z1, []) p1 p2 (JJ_g2 hJ0) hJ0.2.1 (100 * t) hJ0.2.2.2.2 (by omega)) mw_X6_advise qw_966 nl_m0 ent_m0 rfl rfl rfl (Nat.le_of_ble_eq_true rfl) ⟨Nat.le_of_ble_eq_true rfl, Nat.le_of_ble_eq_true rfl⟩ ⟨by show ((124 + 280 * t) + 1) + 0 ≤ 601024; omega, by show ((1425 + 3000 * t) + 6) + 0 ≤ 7293034; omega⟩ dL_law_1236 ?_
  refine J_istore (lv' := [(6, .int ((vAdvM (setT g 0) S A p1 p2))), (5, .int (kAdvise D p1 p2)), (4, .int (nI (4 * t))), (3, .ref (gA G 123)), (2, .ref (aX G 2 0)), (1, .ref (gA G 88)), (0, .ref b)]) hC dL_law_1239 (by decide) rfl ?_
  refine J_aload_n hC (j := 4) dL_law_1241 rfl rfl ?_
  refine J_callV hC (ct_X6_thrown l G D E1 (mAdv (setT g 0) p1 p2) S (aAdv (setT g 0) S A p1 p2) (z1, [])) mw_X6_thrown qw_774 nl_m0 ent_m0 rfl rfl rfl (Nat.le_of_ble_eq_true rfl) ⟨Nat.le_of_ble_eq_true rfl, Nat.le_of_ble_eq_true rfl⟩ ⟨by show (((124 + 280 * t) + 1) + 0) + 0 ≤ 601024; omega, by show (((1425 + 3000 * t) + 6) + 0) + 0 ≤ 7293034; omega⟩ dL_law_1242 ?_
  refine J_iload hC (j := 1) dL_law_1245 rfl ?_
  refine J_icmp_eq (tgt := 1252) hC dL_law_1247 (by decide) (fun _ => ?_) (fun h => absurd e1.symm h)
  refine J_iload hC (j := 1) dL_law_1252 rfl ?_
  refine J_if_ne (tgt := 1269) hC dL_law_1254 (by decide) (fun _ => ?_) (fun hk => ?_)
  · refine J_goto (tgt := 1327) hC dL_law_1269 (by decide) ?_
    refine J_lv [2, 3, 4, 5, 6] (lv' := lvL G b t) rfl ?_
    refine J_widen (k := 124 + 280 * t + 280) (n := 1425 + 3000 * t + 3000) (by omega) (by omega) ?_
    exact hK D E1 (mAdv (setT g 0) p1 p2) S (aAdv (setT g 0) S A p1 p2) z1 e3
  · refine J_aload_n hC (j := 3) dL_law_1257 rfl rfl ?_
    refine J_iconst (v := 0) hC dL_law_1258 (by decide) ?_
    refine J_lald hC (by unfold vp_in; decide) dL_law_1259 ?_
    refine J_iload hC (j := 0) dL_law_1260 rfl ?_
    refine J_i2l hC dL_law_1262 ?_
    refine J_lcmp hC dL_law_1263 ?_
    refine J_if_eq (tgt := 1269) hC dL_law_1264 (by decide) (fun _ => ?_) (fun h => absurd (lgc_self (by rw [← hz, if_pos hk, e2 hk])) h)
    refine J_goto (tgt := 1327) hC dL_law_1269 (by decide) ?_
    refine J_lv [2, 3, 4, 5, 6] (lv' := lvL G b t) rfl ?_
    refine J_widen (k := 124 + 280 * t + 280) (n := 1425 + 3000 * t + 3000) (by omega) (by omega) ?_
    exact hK D E1 (mAdv (setT g 0) p1 p2) S (aAdv (setT g 0) S A p1 p2) z1 e3
set_option maxHeartbeats 4000000 in
set_option maxRecDepth 100000 in
theorem law_mean (h0 : LC p l s m meth c G b L xs) (hL : L ≤ 2048) {t : Nat} (ht : 4 * t + 4 ≤ L) {D E g S A : DD} {z : Int64} (hJ : JJ (100 * t) D g S) (hK : LK p l e s m below meth c Q G b t (124 + 280 * t + 280) (1425 + 3000 * t + 3000)) : Jd p l e room_1 s m #[Value.ref b] below meth c Q G 9 (124 + 280 * t) (1425 + 3000 * t) (mk5 D E g S A) (z, []) 1272 (lvL G b t) [] := by
  obtain ⟨hC, hN, hlt, hX, hbl, hbA⟩ := h0
  have hJ0 := JJ_set hJ 0
  have e1 := go_mean hJ0
  have e3 : JJ (100 * t + 100) D (setT g 0) S := JJ_mono hJ0 (by omega)
  refine J_aload_n hC (j := 3) dL_law_1272 rfl rfl ?_
  refine J_callV hC (ct_X4_mean l G D E g S A (z, [])) mw_X4_mean qw_189 (by decide) ent_rt rfl rfl rfl (Nat.le_of_ble_eq_true rfl) ⟨Nat.le_of_ble_eq_true rfl, Nat.le_of_ble_eq_true rfl⟩ ⟨by show (124 + 280 * t) + 0 ≤ 601024; omega, by show (1425 + 3000 * t) + 0 ≤ 7293034; omega⟩ dL_law_1273 ?_
  refine J_dstore (lv' := [(5, .double (vMeanC D)), (4, .int (nI (4 * t))), (3, .ref (gA G 123)), (2, .ref (aX G 2 0)), (1, .ref (gA G 88)), (0, .ref b)]) hC dL_law_1276 (by decide) rfl ?_
  refine J_aload_n hC (j := 3) dL_law_1278 rfl rfl ?_
  refine J_callV hC (ct_X6_mean l G D E g S A (z, []) (JJ_g2 hJ0)) mw_X6_mean qw_970 nl_m0 ent_m0 rfl rfl rfl (Nat.le_of_ble_eq_true rfl) ⟨Nat.le_of_ble_eq_true rfl, Nat.le_of_ble_eq_true rfl⟩ ⟨by show ((124 + 280 * t) + 0) + 0 ≤ 601024; omega, by show ((1425 + 3000 * t) + 0) + 0 ≤ 7293034; omega⟩ dL_law_1279 ?_
  refine J_dstore (lv' := [(7, .double (vMeanM (setT g 0) S)), (5, .double (vMeanC D)), (4, .int (nI (4 * t))), (3, .ref (gA G 123)), (2, .ref (aX G 2 0)), (1, .ref (gA G 88)), (0, .ref b)]) hC dL_law_1282 (by decide) rfl ?_
  rw [← e1]
  refine J_lv [0, 1, 2, 3, 4, 5, 6] (lv' := [(7, .double (vMeanC D)), (5, .double (vMeanC D)), (4, .int (nI (4 * t))), (3, .ref (gA G 123)), (2, .ref (aX G 2 0)), (1, .ref (gA G 88)), (0, .ref b)]) rfl ?_
  refine J_dload hC (j := 1) dL_law_1284 rfl ?_
  refine J_dload hC (j := 0) dL_law_1286 rfl ?_
  refine J_dcmp hC dL_law_1288 ?_
  generalize hcv : Op.cmpValue (FP.dcmp (vMeanC D) (vMeanC D)) .l = cv
  refine J_if_eq (tgt := 1310) hC dL_law_1289 (by decide) (fun _ => ?_) (fun hk => ?_)
  · refine J_goto (tgt := 1327) hC dL_law_1310 (by decide) ?_
    refine J_lv [2, 3, 4, 5, 6] (lv' := lvL G b t) rfl ?_
    refine J_widen (k := 124 + 280 * t + 280) (n := 1425 + 3000 * t + 3000) (by omega) (by omega) ?_
    exact hK D E (setT g 0) S A z e3
  · refine J_dload hC (j := 1) dL_law_1292 rfl ?_
    refine J_dload hC (j := 1) dL_law_1294 rfl ?_
    refine J_dcmp hC dL_law_1296 ?_
    rw [hcv]
    refine J_if_eq (tgt := 1308) hC dL_law_1297 (by decide) (fun h => absurd h hk) (fun _ => ?_)
    refine J_dload hC (j := 0) dL_law_1300 rfl ?_
    refine J_dload hC (j := 0) dL_law_1302 rfl ?_
    refine J_dcmp hC dL_law_1304 ?_
    rw [hcv]
    refine J_if_ne (tgt := 1310) hC dL_law_1305 (by decide) (fun _ => ?_) (fun h => absurd h hk)
    refine J_goto (tgt := 1327) hC dL_law_1310 (by decide) ?_
    refine J_lv [2, 3, 4, 5, 6] (lv' := lvL G b t) rfl ?_
    refine J_widen (k := 124 + 280 * t + 280) (n := 1425 + 3000 * t + 3000) (by omega) (by omega) ?_
    exact hK D E (setT g 0) S A z e3
set_option maxHeartbeats 4000000 in
set_option maxRecDepth 100000 in
theorem law_digest (h0 : LC p l s m meth c G b L xs) (hL : L ≤ 2048) {t : Nat} (ht : 4 * t + 4 ≤ L) {D E g S A : DD} {z : Int64} (hJ : JJ (100 * t) D g S) (hK : LK p l e s m below meth c Q G b t (124 + 280 * t + 280) (1425 + 3000 * t + 3000)) : Jd p l e room_1 s m #[Value.ref b] below meth c Q G 9 (124 + 280 * t) (1425 + 3000 * t) (mk5 D E g S A) (z, []) 1313 (lvL G b t) [] := by
  obtain ⟨hC, hN, hlt, hX, hbl, hbA⟩ := h0
  have hJ0 := JJ_set hJ 0
  have e1 := go_digest hJ0 (by omega)
  have e3 : JJ (100 * t + 100) D (setT g 0) S := JJ_mono hJ0 (by omega)
  refine J_aload_n hC (j := 3) dL_law_1313 rfl rfl ?_
  refine J_callV hC (ct_X4_digest l G D E g S A (z, [])) mw_X4_digest qw_223 (by decide) ent_rt rfl rfl rfl (Nat.le_of_ble_eq_true rfl) ⟨Nat.le_of_ble_eq_true rfl, Nat.le_of_ble_eq_true rfl⟩ ⟨by show (124 + 280 * t) + 0 ≤ 601024; omega, by show (1425 + 3000 * t) + 0 ≤ 7293034; omega⟩ dL_law_1314 ?_
  refine J_aload_n hC (j := 2) dL_law_1317 rfl rfl ?_
  refine J_callV hC (ct_X6_digest l G D E g S A (z, []) (JJ_g2 hJ0) hJ0.2.1 (DY_nn hJ0.2.2.2.2 (by omega))) mw_X6_digest qw_974 nl_m0 ent_m0 rfl rfl rfl (Nat.le_of_ble_eq_true rfl) ⟨Nat.le_of_ble_eq_true rfl, Nat.le_of_ble_eq_true rfl⟩ ⟨by show ((124 + 280 * t) + 0) + 273 ≤ 601024; omega, by show ((1425 + 3000 * t) + 0) + 2985 ≤ 7293034; omega⟩ dL_law_1318 ?_
  refine J_lcmp hC dL_law_1321 ?_
  refine J_if_eq (tgt := 1327) hC dL_law_1322 (by decide) (fun _ => ?_) (fun h => absurd (lgc_self e1) h)
  refine J_lv [0, 1, 2, 3, 4] (lv' := lvL G b t) rfl ?_
  refine J_widen (k := 124 + 280 * t + 280) (n := 1425 + 3000 * t + 3000) (by omega) (by omega) ?_
  exact hK D E (setT g 0) S A z e3
end LCASES
