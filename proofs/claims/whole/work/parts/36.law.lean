section LAW
variable {p : Program} {l : Launch} {e : Env} {s : State} {m : MethodId} {below : List Frame} {meth : Method} {c : Code} {H : Heap} {locs : List Loc} {cells slots : Nat} {Q : State → Prop} {ls : Array Slot} {Γ : FG} {b L q0 q1 q2 i : Nat} {xs : Nat → Int32} {σ : St} {w : FW}
set_option maxHeartbeats 4000000 in
set_option maxRecDepth 100000 in
theorem lc_person (C : fC p s m #[Value.ref b] c cL_law 7 RL Γ) (hX : va_X b L xs s s.heap) (hbl : b < s.heap.size) (hbA : ¬ fA Γ b) (hL : L ≤ 3584) (hs9 : l.stackTraces = false) (hi : i + 7 ≤ L) (hW : Lw q0 q1 q2 σ w) (hP : fP Γ w H) (hS : va_S (fA Γ) s.heap H locs) (hl : lv_has ls 7 [(4, .int (nI i)), (3, .ref q2), (2, .ref q1), (1, .ref q0), (0, .ref b)]) (hcc : cells + 5 ≤ room_1.cells) (hss : slots + 1230 ≤ room_1.slots) (kk : ∀ (σ1 : St) (w1 : FW) (H1 : Heap) (locs1 : List Loc) (ls1 : Array Slot), Lw q0 q1 q2 σ1 w1 → fP Γ w1 H1 → va_S (fA Γ) s.heap H1 locs1 → lv_has ls1 7 [(4, .int (nI i)), (3, .ref q2), (2, .ref q1), (1, .ref q0), (0, .ref b)] → W p l e room_1 s m #[Value.ref b] below meth c H1 locs1 (cells + 5) (slots + 1230) Q (F0 m 726 ls1 [])) : W p l e room_1 s m #[Value.ref b] below meth c H locs cells slots Q (F0 m 108 ls []) := by
  have hx := C.1.1
  have hb := C.1.2.1
  obtain ⟨hI, hR, ⟨th, hM⟩, ⟨g, h70⟩, e0, e1, e2⟩ := id hW
  refine lv_aload_n hx hb dL_law_108 rfl (lv_at hl 3 rfl) ?_
  have hm := k_X4_person l Γ w σ  hI hR
  rw [e0] at hm
  refine fw_ci hS (fw_rV (rest := []) (As := []) C hP hS wV_L_19 hm hR.1 e0 rfl (fRm_mk rfl rfl (Nat.le_of_ble_eq_true rfl) (Nat.le_of_ble_eq_true rfl) hcc hss (Nat.le_of_ble_eq_true rfl)) rfl hl.1 rfl dL_law_109) (fun r1 w1 H locs hp hP hS => ?_)
  obtain ⟨hr1, hR1, hf1⟩ := hp
  have hI1 := Inv_person (σ := σ)  hI
  have hM1 := Rm_fr hM hf1
  obtain ⟨e01, e11, e21⟩ := Lw_a hW hf1
  obtain ⟨z1, m20, -⟩ := id hM1
  refine lv_aload_n hx hb dL_law_112 rfl (lv_at hl 2 rfl) ?_
  have hm := k_X5_person l Γ w1 σ th  hI hM1
  rw [e11] at hm
  refine fw_ci hS (fw_rV (rest := [.int r1]) (As := []) C hP hS wV_L_23 hm m20 e11 rfl (fRm_mk rfl rfl (Nat.le_of_ble_eq_true rfl) (Nat.le_of_ble_eq_true rfl) hcc hss (Nat.le_of_ble_eq_true rfl)) rfl hl.1 rfl dL_law_113) (fun r2 w2 H locs hp hP hS => ?_)
  obtain ⟨hr2, hR2, hf2⟩ := hp
  refine lv_icmp_eq (tgt := 726) hx hb dL_law_116 (by decide) (fun c_1 => ?_) (fun c_1 => ?_)
  · exact kk _ w2 H locs ls (Lw_b hW hf1 hR1 hI1 hf2 hR2) hP hS hl
  · exact absurd (hr1.trans hr2.symm) c_1
set_option maxHeartbeats 4000000 in
set_option maxRecDepth 100000 in
theorem lc_role (C : fC p s m #[Value.ref b] c cL_law 7 RL Γ) (hX : va_X b L xs s s.heap) (hbl : b < s.heap.size) (hbA : ¬ fA Γ b) (hL : L ≤ 3584) (hs9 : l.stackTraces = false) (hi : i + 7 ≤ L) (hW : Lw q0 q1 q2 σ w) (hP : fP Γ w H) (hS : va_S (fA Γ) s.heap H locs) (hl : lv_has ls 7 [(4, .int (nI i)), (3, .ref q2), (2, .ref q1), (1, .ref q0), (0, .ref b)]) (hcc : cells + 5 ≤ room_1.cells) (hss : slots + 1230 ≤ room_1.slots) (kk : ∀ (σ1 : St) (w1 : FW) (H1 : Heap) (locs1 : List Loc) (ls1 : Array Slot), Lw q0 q1 q2 σ1 w1 → fP Γ w1 H1 → va_S (fA Γ) s.heap H1 locs1 → lv_has ls1 7 [(4, .int (nI i)), (3, .ref q2), (2, .ref q1), (1, .ref q0), (0, .ref b)] → W p l e room_1 s m #[Value.ref b] below meth c H1 locs1 (cells + 5) (slots + 1230) Q (F0 m 726 ls1 [])) : W p l e room_1 s m #[Value.ref b] below meth c H locs cells slots Q (F0 m 121 ls []) := by
  have hx := C.1.1
  have hb := C.1.2.1
  obtain ⟨hI, hR, ⟨th, hM⟩, ⟨g, h70⟩, e0, e1, e2⟩ := id hW
  refine lv_aload_n hx hb dL_law_121 rfl (lv_at hl 3 rfl) ?_
  refine lv_aload_n hx hb dL_law_122 rfl (lv_at hl 4 rfl) ?_
  refine lv_iload hx hb dL_law_123 (lv_at hl 0 rfl) ?_
  refine lv_iconst (v := nI 1) hx hb dL_law_125 (by decide) ?_
  refine fw_addN hx hb dL_law_126 ?_
  refine fw_sld C hX hbl hbA hS (by omega) (i + 1) (by omega) dL_law_127 ?_
  refine lv_aload_n hx hb dL_law_128 rfl (lv_at hl 4 rfl) ?_
  refine lv_iload hx hb dL_law_129 (lv_at hl 0 rfl) ?_
  refine lv_iconst (v := nI 2) hx hb dL_law_131 (by decide) ?_
  refine fw_addN hx hb dL_law_132 ?_
  refine fw_sld C hX hbl hbA hS (by omega) (i + 2) (by omega) dL_law_133 ?_
  refine lv_aload_n hx hb dL_law_134 rfl (lv_at hl 4 rfl) ?_
  refine lv_iload hx hb dL_law_135 (lv_at hl 0 rfl) ?_
  refine lv_iconst (v := nI 3) hx hb dL_law_137 (by decide) ?_
  refine fw_addN hx hb dL_law_138 ?_
  refine fw_sld C hX hbl hbA hS (by omega) (i + 3) (by omega) dL_law_139 ?_
  refine lv_i2l (v := (xs (i + 3)).toInt64) hx hb dL_law_140 rfl ?_
  refine lv_bipush (v := nI 32) hx hb dL_law_141 (by decide) ?_
  refine lv_lshl (v := ((xs (i + 3)).toInt64) <<< ((nI 32).toInt64 &&& 63)) hx hb dL_law_143 rfl ?_
  refine lv_aload_n hx hb dL_law_144 rfl (lv_at hl 4 rfl) ?_
  refine lv_iload hx hb dL_law_145 (lv_at hl 0 rfl) ?_
  refine lv_iconst (v := nI 4) hx hb dL_law_147 (by decide) ?_
  refine fw_addN hx hb dL_law_148 ?_
  refine fw_sld C hX hbl hbA hS (by omega) (i + 4) (by omega) dL_law_149 ?_
  refine lv_i2l (v := (xs (i + 4)).toInt64) hx hb dL_law_150 rfl ?_
  refine lv_ldc2 hx hb C.1.2.2.2.1 (C.1.2.2.2.2 _ qk_L_24) dL_law_151 ?_
  refine lv_land hx hb dL_law_154 ?_
  refine lv_lor hx hb dL_law_155 ?_
  refine lv_aload_n hx hb dL_law_156 rfl (lv_at hl 4 rfl) ?_
  refine lv_iload hx hb dL_law_157 (lv_at hl 0 rfl) ?_
  refine lv_iconst (v := nI 5) hx hb dL_law_159 (by decide) ?_
  refine fw_addN hx hb dL_law_160 ?_
  refine fw_sld C hX hbl hbA hS (by omega) (i + 5) (by omega) dL_law_161 ?_
  refine lv_i2l (v := (xs (i + 5)).toInt64) hx hb dL_law_162 rfl ?_
  refine lv_bipush (v := nI 32) hx hb dL_law_163 (by decide) ?_
  refine lv_lshl (v := ((xs (i + 5)).toInt64) <<< ((nI 32).toInt64 &&& 63)) hx hb dL_law_165 rfl ?_
  refine lv_aload_n hx hb dL_law_166 rfl (lv_at hl 4 rfl) ?_
  refine lv_iload hx hb dL_law_167 (lv_at hl 0 rfl) ?_
  refine lv_bipush (v := nI 6) hx hb dL_law_169 (by decide) ?_
  refine fw_addN hx hb dL_law_171 ?_
  refine fw_sld C hX hbl hbA hS (by omega) (i + 6) (by omega) dL_law_172 ?_
  refine lv_i2l (v := (xs (i + 6)).toInt64) hx hb dL_law_173 rfl ?_
  refine lv_ldc2 hx hb C.1.2.2.2.1 (C.1.2.2.2.2 _ qk_L_24) dL_law_174 ?_
  refine lv_land hx hb dL_law_177 ?_
  refine lv_lor hx hb dL_law_178 ?_
  have hm := k_X4_role l Γ w σ (xs (i + 1)) (xs (i + 2)) ((((xs (i + 3)).toInt64) <<< ((nI 32).toInt64 &&& 63)) ||| (((xs (i + 4)).toInt64) &&& 4294967295)) ((((xs (i + 5)).toInt64) <<< ((nI 32).toInt64 &&& 63)) ||| (((xs (i + 6)).toInt64) &&& 4294967295)) hI hR
  rw [e0] at hm
  refine fw_ci hS (fw_rV (rest := []) (As := [.int (xs (i + 1)), .int (xs (i + 2)), .long ((((xs (i + 3)).toInt64) <<< ((nI 32).toInt64 &&& 63)) ||| (((xs (i + 4)).toInt64) &&& 4294967295)), .long ((((xs (i + 5)).toInt64) <<< ((nI 32).toInt64 &&& 63)) ||| (((xs (i + 6)).toInt64) &&& 4294967295))]) C hP hS wV_L_26 hm hR.1 e0 rfl (fRm_mk rfl rfl (Nat.le_of_ble_eq_true rfl) (Nat.le_of_ble_eq_true rfl) hcc hss (Nat.le_of_ble_eq_true rfl)) rfl hl.1 rfl dL_law_179) (fun r1 w1 H locs hp hP hS => ?_)
  obtain ⟨hr1, hR1, hf1⟩ := hp
  have hI1 := Inv_role (σ := σ) (p := (xs (i + 1))) (r := (xs (i + 2))) (f := ((((xs (i + 3)).toInt64) <<< ((nI 32).toInt64 &&& 63)) ||| (((xs (i + 4)).toInt64) &&& 4294967295))) (t := ((((xs (i + 5)).toInt64) <<< ((nI 32).toInt64 &&& 63)) ||| (((xs (i + 6)).toInt64) &&& 4294967295))) hI
  have hM1 := Rm_fr hM hf1
  obtain ⟨e01, e11, e21⟩ := Lw_a hW hf1
  obtain ⟨z1, m20, -⟩ := id hM1
  refine lv_aload_n hx hb dL_law_182 rfl (lv_at hl 2 rfl) ?_
  refine lv_aload_n hx hb dL_law_183 rfl (lv_at hl 4 rfl) ?_
  refine lv_iload hx hb dL_law_184 (lv_at hl 0 rfl) ?_
  refine lv_iconst (v := nI 1) hx hb dL_law_186 (by decide) ?_
  refine fw_addN hx hb dL_law_187 ?_
  refine fw_sld C hX hbl hbA hS (by omega) (i + 1) (by omega) dL_law_188 ?_
  refine lv_aload_n hx hb dL_law_189 rfl (lv_at hl 4 rfl) ?_
  refine lv_iload hx hb dL_law_190 (lv_at hl 0 rfl) ?_
  refine lv_iconst (v := nI 2) hx hb dL_law_192 (by decide) ?_
  refine fw_addN hx hb dL_law_193 ?_
  refine fw_sld C hX hbl hbA hS (by omega) (i + 2) (by omega) dL_law_194 ?_
  refine lv_aload_n hx hb dL_law_195 rfl (lv_at hl 4 rfl) ?_
  refine lv_iload hx hb dL_law_196 (lv_at hl 0 rfl) ?_
  refine lv_iconst (v := nI 3) hx hb dL_law_198 (by decide) ?_
  refine fw_addN hx hb dL_law_199 ?_
  refine fw_sld C hX hbl hbA hS (by omega) (i + 3) (by omega) dL_law_200 ?_
  refine lv_i2l (v := (xs (i + 3)).toInt64) hx hb dL_law_201 rfl ?_
  refine lv_bipush (v := nI 32) hx hb dL_law_202 (by decide) ?_
  refine lv_lshl (v := ((xs (i + 3)).toInt64) <<< ((nI 32).toInt64 &&& 63)) hx hb dL_law_204 rfl ?_
  refine lv_aload_n hx hb dL_law_205 rfl (lv_at hl 4 rfl) ?_
  refine lv_iload hx hb dL_law_206 (lv_at hl 0 rfl) ?_
  refine lv_iconst (v := nI 4) hx hb dL_law_208 (by decide) ?_
  refine fw_addN hx hb dL_law_209 ?_
  refine fw_sld C hX hbl hbA hS (by omega) (i + 4) (by omega) dL_law_210 ?_
  refine lv_i2l (v := (xs (i + 4)).toInt64) hx hb dL_law_211 rfl ?_
  refine lv_ldc2 hx hb C.1.2.2.2.1 (C.1.2.2.2.2 _ qk_L_24) dL_law_212 ?_
  refine lv_land hx hb dL_law_215 ?_
  refine lv_lor hx hb dL_law_216 ?_
  refine lv_aload_n hx hb dL_law_217 rfl (lv_at hl 4 rfl) ?_
  refine lv_iload hx hb dL_law_218 (lv_at hl 0 rfl) ?_
  refine lv_iconst (v := nI 5) hx hb dL_law_220 (by decide) ?_
  refine fw_addN hx hb dL_law_221 ?_
  refine fw_sld C hX hbl hbA hS (by omega) (i + 5) (by omega) dL_law_222 ?_
  refine lv_i2l (v := (xs (i + 5)).toInt64) hx hb dL_law_223 rfl ?_
  refine lv_bipush (v := nI 32) hx hb dL_law_224 (by decide) ?_
  refine lv_lshl (v := ((xs (i + 5)).toInt64) <<< ((nI 32).toInt64 &&& 63)) hx hb dL_law_226 rfl ?_
  refine lv_aload_n hx hb dL_law_227 rfl (lv_at hl 4 rfl) ?_
  refine lv_iload hx hb dL_law_228 (lv_at hl 0 rfl) ?_
  refine lv_bipush (v := nI 6) hx hb dL_law_230 (by decide) ?_
  refine fw_addN hx hb dL_law_232 ?_
  refine fw_sld C hX hbl hbA hS (by omega) (i + 6) (by omega) dL_law_233 ?_
  refine lv_i2l (v := (xs (i + 6)).toInt64) hx hb dL_law_234 rfl ?_
  refine lv_ldc2 hx hb C.1.2.2.2.1 (C.1.2.2.2.2 _ qk_L_24) dL_law_235 ?_
  refine lv_land hx hb dL_law_238 ?_
  refine lv_lor hx hb dL_law_239 ?_
  have hm := k_X5_role l Γ w1 σ th (xs (i + 1)) (xs (i + 2)) ((((xs (i + 3)).toInt64) <<< ((nI 32).toInt64 &&& 63)) ||| (((xs (i + 4)).toInt64) &&& 4294967295)) ((((xs (i + 5)).toInt64) <<< ((nI 32).toInt64 &&& 63)) ||| (((xs (i + 6)).toInt64) &&& 4294967295)) hI hM1
  rw [e11] at hm
  refine fw_ci hS (fw_rV (rest := [.int r1]) (As := [.int (xs (i + 1)), .int (xs (i + 2)), .long ((((xs (i + 3)).toInt64) <<< ((nI 32).toInt64 &&& 63)) ||| (((xs (i + 4)).toInt64) &&& 4294967295)), .long ((((xs (i + 5)).toInt64) <<< ((nI 32).toInt64 &&& 63)) ||| (((xs (i + 6)).toInt64) &&& 4294967295))]) C hP hS wV_L_30 hm m20 e11 rfl (fRm_mk rfl rfl (Nat.le_of_ble_eq_true rfl) (Nat.le_of_ble_eq_true rfl) hcc hss (Nat.le_of_ble_eq_true rfl)) rfl hl.1 rfl dL_law_240) (fun r2 w2 H locs hp hP hS => ?_)
  obtain ⟨hr2, hR2, hf2⟩ := hp
  refine lv_icmp_eq (tgt := 726) hx hb dL_law_243 (by decide) (fun c_1 => ?_) (fun c_1 => ?_)
  · exact kk _ w2 H locs ls (Lw_b hW hf1 hR1 hI1 hf2 hR2) hP hS hl
  · exact absurd (hr1.trans hr2.symm) c_1
set_option maxHeartbeats 4000000 in
set_option maxRecDepth 100000 in
theorem lc_thing (C : fC p s m #[Value.ref b] c cL_law 7 RL Γ) (hX : va_X b L xs s s.heap) (hbl : b < s.heap.size) (hbA : ¬ fA Γ b) (hL : L ≤ 3584) (hs9 : l.stackTraces = false) (hi : i + 7 ≤ L) (hW : Lw q0 q1 q2 σ w) (hP : fP Γ w H) (hS : va_S (fA Γ) s.heap H locs) (hl : lv_has ls 7 [(4, .int (nI i)), (3, .ref q2), (2, .ref q1), (1, .ref q0), (0, .ref b)]) (hcc : cells + 5 ≤ room_1.cells) (hss : slots + 1230 ≤ room_1.slots) (kk : ∀ (σ1 : St) (w1 : FW) (H1 : Heap) (locs1 : List Loc) (ls1 : Array Slot), Lw q0 q1 q2 σ1 w1 → fP Γ w1 H1 → va_S (fA Γ) s.heap H1 locs1 → lv_has ls1 7 [(4, .int (nI i)), (3, .ref q2), (2, .ref q1), (1, .ref q0), (0, .ref b)] → W p l e room_1 s m #[Value.ref b] below meth c H1 locs1 (cells + 5) (slots + 1230) Q (F0 m 726 ls1 [])) : W p l e room_1 s m #[Value.ref b] below meth c H locs cells slots Q (F0 m 248 ls []) := by
  have hx := C.1.1
  have hb := C.1.2.1
  obtain ⟨hI, hR, ⟨th, hM⟩, ⟨g, h70⟩, e0, e1, e2⟩ := id hW
  refine lv_aload_n hx hb dL_law_248 rfl (lv_at hl 3 rfl) ?_
  refine lv_aload_n hx hb dL_law_249 rfl (lv_at hl 4 rfl) ?_
  refine lv_iload hx hb dL_law_250 (lv_at hl 0 rfl) ?_
  refine lv_iconst (v := nI 1) hx hb dL_law_252 (by decide) ?_
  refine fw_addN hx hb dL_law_253 ?_
  refine fw_sld C hX hbl hbA hS (by omega) (i + 1) (by omega) dL_law_254 ?_
  have hm := k_X4_thing l Γ w σ (xs (i + 1)) hI hR
  rw [e0] at hm
  refine fw_ci hS (fw_rV (rest := []) (As := [.int (xs (i + 1))]) C hP hS wV_L_31 hm hR.1 e0 rfl (fRm_mk rfl rfl (Nat.le_of_ble_eq_true rfl) (Nat.le_of_ble_eq_true rfl) hcc hss (Nat.le_of_ble_eq_true rfl)) rfl hl.1 rfl dL_law_255) (fun r1 w1 H locs hp hP hS => ?_)
  obtain ⟨hr1, hR1, hf1⟩ := hp
  have hI1 := Inv_thing (σ := σ) (p := (xs (i + 1))) hI
  have hM1 := Rm_fr hM hf1
  obtain ⟨e01, e11, e21⟩ := Lw_a hW hf1
  obtain ⟨z1, m20, -⟩ := id hM1
  refine lv_aload_n hx hb dL_law_258 rfl (lv_at hl 2 rfl) ?_
  refine lv_aload_n hx hb dL_law_259 rfl (lv_at hl 4 rfl) ?_
  refine lv_iload hx hb dL_law_260 (lv_at hl 0 rfl) ?_
  refine lv_iconst (v := nI 1) hx hb dL_law_262 (by decide) ?_
  refine fw_addN hx hb dL_law_263 ?_
  refine fw_sld C hX hbl hbA hS (by omega) (i + 1) (by omega) dL_law_264 ?_
  have hm := k_X5_thing l Γ w1 σ th (xs (i + 1)) hI hM1
  rw [e11] at hm
  refine fw_ci hS (fw_rV (rest := [.int r1]) (As := [.int (xs (i + 1))]) C hP hS wV_L_35 hm m20 e11 rfl (fRm_mk rfl rfl (Nat.le_of_ble_eq_true rfl) (Nat.le_of_ble_eq_true rfl) hcc hss (Nat.le_of_ble_eq_true rfl)) rfl hl.1 rfl dL_law_265) (fun r2 w2 H locs hp hP hS => ?_)
  obtain ⟨hr2, hR2, hf2⟩ := hp
  refine lv_icmp_eq (tgt := 726) hx hb dL_law_268 (by decide) (fun c_1 => ?_) (fun c_1 => ?_)
  · exact kk _ w2 H locs ls (Lw_b hW hf1 hR1 hI1 hf2 hR2) hP hS hl
  · exact absurd (hr1.trans hr2.symm) c_1
set_option maxHeartbeats 4000000 in
set_option maxRecDepth 100000 in
theorem lc_byteOf (C : fC p s m #[Value.ref b] c cL_law 7 RL Γ) (hX : va_X b L xs s s.heap) (hbl : b < s.heap.size) (hbA : ¬ fA Γ b) (hL : L ≤ 3584) (hs9 : l.stackTraces = false) (hi : i + 7 ≤ L) (hW : Lw q0 q1 q2 σ w) (hP : fP Γ w H) (hS : va_S (fA Γ) s.heap H locs) (hl : lv_has ls 7 [(4, .int (nI i)), (3, .ref q2), (2, .ref q1), (1, .ref q0), (0, .ref b)]) (hcc : cells + 5 ≤ room_1.cells) (hss : slots + 1230 ≤ room_1.slots) (kk : ∀ (σ1 : St) (w1 : FW) (H1 : Heap) (locs1 : List Loc) (ls1 : Array Slot), Lw q0 q1 q2 σ1 w1 → fP Γ w1 H1 → va_S (fA Γ) s.heap H1 locs1 → lv_has ls1 7 [(4, .int (nI i)), (3, .ref q2), (2, .ref q1), (1, .ref q0), (0, .ref b)] → W p l e room_1 s m #[Value.ref b] below meth c H1 locs1 (cells + 5) (slots + 1230) Q (F0 m 726 ls1 [])) : W p l e room_1 s m #[Value.ref b] below meth c H locs cells slots Q (F0 m 273 ls []) := by
  have hx := C.1.1
  have hb := C.1.2.1
  obtain ⟨hI, hR, ⟨th, hM⟩, ⟨g, h70⟩, e0, e1, e2⟩ := id hW
  refine lv_aload_n hx hb dL_law_273 rfl (lv_at hl 3 rfl) ?_
  refine lv_aload_n hx hb dL_law_274 rfl (lv_at hl 4 rfl) ?_
  refine lv_iload hx hb dL_law_275 (lv_at hl 0 rfl) ?_
  refine lv_iconst (v := nI 1) hx hb dL_law_277 (by decide) ?_
  refine fw_addN hx hb dL_law_278 ?_
  refine fw_sld C hX hbl hbA hS (by omega) (i + 1) (by omega) dL_law_279 ?_
  refine lv_aload_n hx hb dL_law_280 rfl (lv_at hl 4 rfl) ?_
  refine lv_iload hx hb dL_law_281 (lv_at hl 0 rfl) ?_
  refine lv_iconst (v := nI 2) hx hb dL_law_283 (by decide) ?_
  refine fw_addN hx hb dL_law_284 ?_
  refine fw_sld C hX hbl hbA hS (by omega) (i + 2) (by omega) dL_law_285 ?_
  have hm := k_X4_byteOf l Γ w σ (xs (i + 1)) (xs (i + 2)) hI hR
  rw [e0] at hm
  refine fw_ci hS (fw_rV (rest := []) (As := [.int (xs (i + 1)), .int (xs (i + 2))]) C hP hS wV_L_36 hm hR.1 e0 rfl (fRm_mk rfl rfl (Nat.le_of_ble_eq_true rfl) (Nat.le_of_ble_eq_true rfl) hcc hss (Nat.le_of_ble_eq_true rfl)) rfl hl.1 rfl dL_law_286) (fun r1 w1 H locs hp hP hS => ?_)
  obtain ⟨hr1, hR1, hf1⟩ := hp
  have hI1 := Inv_byteOf (σ := σ) (t := (xs (i + 1))) (u := (xs (i + 2))) hI
  have hM1 := Rm_fr hM hf1
  obtain ⟨e01, e11, e21⟩ := Lw_a hW hf1
  obtain ⟨z1, m20, -⟩ := id hM1
  refine lv_aload_n hx hb dL_law_289 rfl (lv_at hl 2 rfl) ?_
  refine lv_aload_n hx hb dL_law_290 rfl (lv_at hl 4 rfl) ?_
  refine lv_iload hx hb dL_law_291 (lv_at hl 0 rfl) ?_
  refine lv_iconst (v := nI 1) hx hb dL_law_293 (by decide) ?_
  refine fw_addN hx hb dL_law_294 ?_
  refine fw_sld C hX hbl hbA hS (by omega) (i + 1) (by omega) dL_law_295 ?_
  refine lv_aload_n hx hb dL_law_296 rfl (lv_at hl 4 rfl) ?_
  refine lv_iload hx hb dL_law_297 (lv_at hl 0 rfl) ?_
  refine lv_iconst (v := nI 2) hx hb dL_law_299 (by decide) ?_
  refine fw_addN hx hb dL_law_300 ?_
  refine fw_sld C hX hbl hbA hS (by omega) (i + 2) (by omega) dL_law_301 ?_
  have hm := k_X5_byteOf l Γ w1 σ th (xs (i + 1)) (xs (i + 2)) hI hM1
  rw [e11] at hm
  refine fw_ci hS (fw_rV (rest := [.int r1]) (As := [.int (xs (i + 1)), .int (xs (i + 2))]) C hP hS wV_L_40 hm m20 e11 rfl (fRm_mk rfl rfl (Nat.le_of_ble_eq_true rfl) (Nat.le_of_ble_eq_true rfl) hcc hss (Nat.le_of_ble_eq_true rfl)) rfl hl.1 rfl dL_law_302) (fun r2 w2 H locs hp hP hS => ?_)
  obtain ⟨hr2, hR2, hf2⟩ := hp
  refine lv_icmp_eq (tgt := 726) hx hb dL_law_305 (by decide) (fun c_1 => ?_) (fun c_1 => ?_)
  · exact kk _ w2 H locs ls (Lw_b hW hf1 hR1 hI1 hf2 hR2) hP hS hl
  · exact absurd (hr1.trans hr2.symm) c_1
set_option maxHeartbeats 4000000 in
set_option maxRecDepth 100000 in
theorem lc_holds (C : fC p s m #[Value.ref b] c cL_law 7 RL Γ) (hX : va_X b L xs s s.heap) (hbl : b < s.heap.size) (hbA : ¬ fA Γ b) (hL : L ≤ 3584) (hs9 : l.stackTraces = false) (hi : i + 7 ≤ L) (hW : Lw q0 q1 q2 σ w) (hP : fP Γ w H) (hS : va_S (fA Γ) s.heap H locs) (hl : lv_has ls 7 [(4, .int (nI i)), (3, .ref q2), (2, .ref q1), (1, .ref q0), (0, .ref b)]) (hcc : cells + 5 ≤ room_1.cells) (hss : slots + 1230 ≤ room_1.slots) (kk : ∀ (σ1 : St) (w1 : FW) (H1 : Heap) (locs1 : List Loc) (ls1 : Array Slot), Lw q0 q1 q2 σ1 w1 → fP Γ w1 H1 → va_S (fA Γ) s.heap H1 locs1 → lv_has ls1 7 [(4, .int (nI i)), (3, .ref q2), (2, .ref q1), (1, .ref q0), (0, .ref b)] → W p l e room_1 s m #[Value.ref b] below meth c H1 locs1 (cells + 5) (slots + 1230) Q (F0 m 726 ls1 [])) : W p l e room_1 s m #[Value.ref b] below meth c H locs cells slots Q (F0 m 434 ls []) := by
  have hx := C.1.1
  have hb := C.1.2.1
  obtain ⟨hI, hR, ⟨th, hM⟩, ⟨g, h70⟩, e0, e1, e2⟩ := id hW
  refine lv_aload_n hx hb dL_law_434 rfl (lv_at hl 3 rfl) ?_
  refine lv_aload_n hx hb dL_law_435 rfl (lv_at hl 4 rfl) ?_
  refine lv_iload hx hb dL_law_436 (lv_at hl 0 rfl) ?_
  refine lv_iconst (v := nI 1) hx hb dL_law_438 (by decide) ?_
  refine fw_addN hx hb dL_law_439 ?_
  refine fw_sld C hX hbl hbA hS (by omega) (i + 1) (by omega) dL_law_440 ?_
  have hm := k_X4_holds l Γ w σ (xs (i + 1)) hI hR
  rw [e0] at hm
  refine fw_ci hS (fw_rV (rest := []) (As := [.int (xs (i + 1))]) C hP hS wV_L_50 hm hR.1 e0 rfl (fRm_mk rfl rfl (Nat.le_of_ble_eq_true rfl) (Nat.le_of_ble_eq_true rfl) hcc hss (Nat.le_of_ble_eq_true rfl)) rfl hl.1 rfl dL_law_441) (fun r1 w1 H locs hp hP hS => ?_)
  obtain ⟨hr1, hR1, hf1⟩ := hp
  have hI1 := hI
  have hM1 := Rm_fr hM hf1
  obtain ⟨e01, e11, e21⟩ := Lw_a hW hf1
  obtain ⟨z1, m20, -⟩ := id hM1
  refine lv_aload_n hx hb dL_law_444 rfl (lv_at hl 2 rfl) ?_
  refine lv_aload_n hx hb dL_law_445 rfl (lv_at hl 4 rfl) ?_
  refine lv_iload hx hb dL_law_446 (lv_at hl 0 rfl) ?_
  refine lv_iconst (v := nI 1) hx hb dL_law_448 (by decide) ?_
  refine fw_addN hx hb dL_law_449 ?_
  refine fw_sld C hX hbl hbA hS (by omega) (i + 1) (by omega) dL_law_450 ?_
  have hm := k_X5_holds l Γ w1 σ th (xs (i + 1)) hI hM1
  rw [e11] at hm
  refine fw_ci hS (fw_rV (rest := [.int r1]) (As := [.int (xs (i + 1))]) C hP hS wV_L_54 hm m20 e11 rfl (fRm_mk rfl rfl (Nat.le_of_ble_eq_true rfl) (Nat.le_of_ble_eq_true rfl) hcc hss (Nat.le_of_ble_eq_true rfl)) rfl hl.1 rfl dL_law_451) (fun r2 w2 H locs hp hP hS => ?_)
  obtain ⟨hr2, hR2, hf2⟩ := hp
  refine lv_icmp_eq (tgt := 726) hx hb dL_law_454 (by decide) (fun c_1 => ?_) (fun c_1 => ?_)
  · exact kk _ w2 H locs ls (Lw_b hW hf1 hR1 hI1 hf2 hR2) hP hS hl
  · exact absurd (hr1.trans hr2.symm) c_1
set_option maxHeartbeats 4000000 in
set_option maxRecDepth 100000 in
theorem lc_withdraw (C : fC p s m #[Value.ref b] c cL_law 7 RL Γ) (hX : va_X b L xs s s.heap) (hbl : b < s.heap.size) (hbA : ¬ fA Γ b) (hL : L ≤ 3584) (hs9 : l.stackTraces = false) (hi : i + 7 ≤ L) (hW : Lw q0 q1 q2 σ w) (hP : fP Γ w H) (hS : va_S (fA Γ) s.heap H locs) (hl : lv_has ls 7 [(4, .int (nI i)), (3, .ref q2), (2, .ref q1), (1, .ref q0), (0, .ref b)]) (hcc : cells + 5 ≤ room_1.cells) (hss : slots + 1230 ≤ room_1.slots) (kk : ∀ (σ1 : St) (w1 : FW) (H1 : Heap) (locs1 : List Loc) (ls1 : Array Slot), Lw q0 q1 q2 σ1 w1 → fP Γ w1 H1 → va_S (fA Γ) s.heap H1 locs1 → lv_has ls1 7 [(4, .int (nI i)), (3, .ref q2), (2, .ref q1), (1, .ref q0), (0, .ref b)] → W p l e room_1 s m #[Value.ref b] below meth c H1 locs1 (cells + 5) (slots + 1230) Q (F0 m 726 ls1 [])) : W p l e room_1 s m #[Value.ref b] below meth c H locs cells slots Q (F0 m 459 ls []) := by
  have hx := C.1.1
  have hb := C.1.2.1
  obtain ⟨hI, hR, ⟨th, hM⟩, ⟨g, h70⟩, e0, e1, e2⟩ := id hW
  refine lv_aload_n hx hb dL_law_459 rfl (lv_at hl 3 rfl) ?_
  refine lv_aload_n hx hb dL_law_460 rfl (lv_at hl 4 rfl) ?_
  refine lv_iload hx hb dL_law_461 (lv_at hl 0 rfl) ?_
  refine lv_iconst (v := nI 1) hx hb dL_law_463 (by decide) ?_
  refine fw_addN hx hb dL_law_464 ?_
  refine fw_sld C hX hbl hbA hS (by omega) (i + 1) (by omega) dL_law_465 ?_
  have hm := k_X4_withdraw l Γ w σ (xs (i + 1)) hI hR
  rw [e0] at hm
  refine fw_ci hS (fw_rV (rest := []) (As := [.int (xs (i + 1))]) C hP hS wV_L_55 hm hR.1 e0 rfl (fRm_mk rfl rfl (Nat.le_of_ble_eq_true rfl) (Nat.le_of_ble_eq_true rfl) hcc hss (Nat.le_of_ble_eq_true rfl)) rfl hl.1 rfl dL_law_466) (fun r1 w1 H locs hp hP hS => ?_)
  obtain ⟨hr1, hR1, hf1⟩ := hp
  have hI1 := Inv_withdraw (σ := σ) (i := (xs (i + 1))) hI
  have hM1 := Rm_fr hM hf1
  obtain ⟨e01, e11, e21⟩ := Lw_a hW hf1
  obtain ⟨z1, m20, -⟩ := id hM1
  refine lv_aload_n hx hb dL_law_469 rfl (lv_at hl 2 rfl) ?_
  refine lv_aload_n hx hb dL_law_470 rfl (lv_at hl 4 rfl) ?_
  refine lv_iload hx hb dL_law_471 (lv_at hl 0 rfl) ?_
  refine lv_iconst (v := nI 1) hx hb dL_law_473 (by decide) ?_
  refine fw_addN hx hb dL_law_474 ?_
  refine fw_sld C hX hbl hbA hS (by omega) (i + 1) (by omega) dL_law_475 ?_
  have hm := k_X5_withdraw l Γ w1 σ th (xs (i + 1)) hI hM1
  rw [e11] at hm
  refine fw_ci hS (fw_rV (rest := [.int r1]) (As := [.int (xs (i + 1))]) C hP hS wV_L_58 hm m20 e11 rfl (fRm_mk rfl rfl (Nat.le_of_ble_eq_true rfl) (Nat.le_of_ble_eq_true rfl) hcc hss (Nat.le_of_ble_eq_true rfl)) rfl hl.1 rfl dL_law_476) (fun r2 w2 H locs hp hP hS => ?_)
  obtain ⟨hr2, hR2, hf2⟩ := hp
  refine lv_icmp_eq (tgt := 726) hx hb dL_law_479 (by decide) (fun c_1 => ?_) (fun c_1 => ?_)
  · exact kk _ w2 H locs ls (Lw_b hW hf1 hR1 hI1 hf2 hR2) hP hS hl
  · exact absurd (hr1.trans hr2.symm) c_1
set_option maxHeartbeats 4000000 in
set_option maxRecDepth 100000 in
theorem lc_order (C : fC p s m #[Value.ref b] c cL_law 7 RL Γ) (hX : va_X b L xs s s.heap) (hbl : b < s.heap.size) (hbA : ¬ fA Γ b) (hL : L ≤ 3584) (hs9 : l.stackTraces = false) (hi : i + 7 ≤ L) (hW : Lw q0 q1 q2 σ w) (hP : fP Γ w H) (hS : va_S (fA Γ) s.heap H locs) (hl : lv_has ls 7 [(4, .int (nI i)), (3, .ref q2), (2, .ref q1), (1, .ref q0), (0, .ref b)]) (hcc : cells + 5 ≤ room_1.cells) (hss : slots + 1230 ≤ room_1.slots) (kk : ∀ (σ1 : St) (w1 : FW) (H1 : Heap) (locs1 : List Loc) (ls1 : Array Slot), Lw q0 q1 q2 σ1 w1 → fP Γ w1 H1 → va_S (fA Γ) s.heap H1 locs1 → lv_has ls1 7 [(4, .int (nI i)), (3, .ref q2), (2, .ref q1), (1, .ref q0), (0, .ref b)] → W p l e room_1 s m #[Value.ref b] below meth c H1 locs1 (cells + 5) (slots + 1230) Q (F0 m 726 ls1 [])) : W p l e room_1 s m #[Value.ref b] below meth c H locs cells slots Q (F0 m 484 ls []) := by
  have hx := C.1.1
  have hb := C.1.2.1
  obtain ⟨hI, hR, ⟨th, hM⟩, ⟨g, h70⟩, e0, e1, e2⟩ := id hW
  refine lv_aload_n hx hb dL_law_484 rfl (lv_at hl 3 rfl) ?_
  refine lv_aload_n hx hb dL_law_485 rfl (lv_at hl 4 rfl) ?_
  refine lv_iload hx hb dL_law_486 (lv_at hl 0 rfl) ?_
  refine lv_iconst (v := nI 1) hx hb dL_law_488 (by decide) ?_
  refine fw_addN hx hb dL_law_489 ?_
  refine fw_sld C hX hbl hbA hS (by omega) (i + 1) (by omega) dL_law_490 ?_
  refine lv_aload_n hx hb dL_law_491 rfl (lv_at hl 4 rfl) ?_
  refine lv_iload hx hb dL_law_492 (lv_at hl 0 rfl) ?_
  refine lv_iconst (v := nI 2) hx hb dL_law_494 (by decide) ?_
  refine fw_addN hx hb dL_law_495 ?_
  refine fw_sld C hX hbl hbA hS (by omega) (i + 2) (by omega) dL_law_496 ?_
  have hm := k_X4_order l Γ w σ (xs (i + 1)) (xs (i + 2)) hI hR
  rw [e0] at hm
  refine fw_ci hS (fw_rV (rest := []) (As := [.int (xs (i + 1)), .int (xs (i + 2))]) C hP hS wV_L_59 hm hR.1 e0 rfl (fRm_mk rfl rfl (Nat.le_of_ble_eq_true rfl) (Nat.le_of_ble_eq_true rfl) hcc hss (Nat.le_of_ble_eq_true rfl)) rfl hl.1 rfl dL_law_497) (fun r1 w1 H locs hp hP hS => ?_)
  obtain ⟨hr1, hR1, hf1⟩ := hp
  have hI1 := Inv_order (σ := σ) (m := (xs (i + 1))) (a := (xs (i + 2))) hI
  have hM1 := Rm_fr hM hf1
  obtain ⟨e01, e11, e21⟩ := Lw_a hW hf1
  obtain ⟨z1, m20, -⟩ := id hM1
  refine lv_aload_n hx hb dL_law_500 rfl (lv_at hl 2 rfl) ?_
  refine lv_aload_n hx hb dL_law_501 rfl (lv_at hl 4 rfl) ?_
  refine lv_iload hx hb dL_law_502 (lv_at hl 0 rfl) ?_
  refine lv_iconst (v := nI 1) hx hb dL_law_504 (by decide) ?_
  refine fw_addN hx hb dL_law_505 ?_
  refine fw_sld C hX hbl hbA hS (by omega) (i + 1) (by omega) dL_law_506 ?_
  refine lv_aload_n hx hb dL_law_507 rfl (lv_at hl 4 rfl) ?_
  refine lv_iload hx hb dL_law_508 (lv_at hl 0 rfl) ?_
  refine lv_iconst (v := nI 2) hx hb dL_law_510 (by decide) ?_
  refine fw_addN hx hb dL_law_511 ?_
  refine fw_sld C hX hbl hbA hS (by omega) (i + 2) (by omega) dL_law_512 ?_
  have hm := k_X5_order l Γ w1 σ th (xs (i + 1)) (xs (i + 2)) hI hM1
  rw [e11] at hm
  refine fw_ci hS (fw_rV (rest := [.int r1]) (As := [.int (xs (i + 1)), .int (xs (i + 2))]) C hP hS wV_L_62 hm m20 e11 rfl (fRm_mk rfl rfl (Nat.le_of_ble_eq_true rfl) (Nat.le_of_ble_eq_true rfl) hcc hss (Nat.le_of_ble_eq_true rfl)) rfl hl.1 rfl dL_law_513) (fun r2 w2 H locs hp hP hS => ?_)
  obtain ⟨hr2, hR2, hf2⟩ := hp
  refine lv_icmp_eq (tgt := 726) hx hb dL_law_516 (by decide) (fun c_1 => ?_) (fun c_1 => ?_)
  · exact kk _ w2 H locs ls (Lw_b hW hf1 hR1 hI1 hf2 hR2) hP hS hl
  · exact absurd (hr1.trans hr2.symm) c_1
set_option maxHeartbeats 4000000 in
set_option maxRecDepth 100000 in
theorem lc_complete (C : fC p s m #[Value.ref b] c cL_law 7 RL Γ) (hX : va_X b L xs s s.heap) (hbl : b < s.heap.size) (hbA : ¬ fA Γ b) (hL : L ≤ 3584) (hs9 : l.stackTraces = false) (hi : i + 7 ≤ L) (hW : Lw q0 q1 q2 σ w) (hP : fP Γ w H) (hS : va_S (fA Γ) s.heap H locs) (hl : lv_has ls 7 [(4, .int (nI i)), (3, .ref q2), (2, .ref q1), (1, .ref q0), (0, .ref b)]) (hcc : cells + 5 ≤ room_1.cells) (hss : slots + 1230 ≤ room_1.slots) (kk : ∀ (σ1 : St) (w1 : FW) (H1 : Heap) (locs1 : List Loc) (ls1 : Array Slot), Lw q0 q1 q2 σ1 w1 → fP Γ w1 H1 → va_S (fA Γ) s.heap H1 locs1 → lv_has ls1 7 [(4, .int (nI i)), (3, .ref q2), (2, .ref q1), (1, .ref q0), (0, .ref b)] → W p l e room_1 s m #[Value.ref b] below meth c H1 locs1 (cells + 5) (slots + 1230) Q (F0 m 726 ls1 [])) : W p l e room_1 s m #[Value.ref b] below meth c H locs cells slots Q (F0 m 521 ls []) := by
  have hx := C.1.1
  have hb := C.1.2.1
  obtain ⟨hI, hR, ⟨th, hM⟩, ⟨g, h70⟩, e0, e1, e2⟩ := id hW
  refine lv_aload_n hx hb dL_law_521 rfl (lv_at hl 3 rfl) ?_
  refine lv_aload_n hx hb dL_law_522 rfl (lv_at hl 4 rfl) ?_
  refine lv_iload hx hb dL_law_523 (lv_at hl 0 rfl) ?_
  refine lv_iconst (v := nI 1) hx hb dL_law_525 (by decide) ?_
  refine fw_addN hx hb dL_law_526 ?_
  refine fw_sld C hX hbl hbA hS (by omega) (i + 1) (by omega) dL_law_527 ?_
  have hm := k_X4_complete l Γ w σ (xs (i + 1)) hI hR
  rw [e0] at hm
  refine fw_ci hS (fw_rV (rest := []) (As := [.int (xs (i + 1))]) C hP hS wV_L_63 hm hR.1 e0 rfl (fRm_mk rfl rfl (Nat.le_of_ble_eq_true rfl) (Nat.le_of_ble_eq_true rfl) hcc hss (Nat.le_of_ble_eq_true rfl)) rfl hl.1 rfl dL_law_528) (fun r1 w1 H locs hp hP hS => ?_)
  obtain ⟨hr1, hR1, hf1⟩ := hp
  have hI1 := hI
  have hM1 := Rm_fr hM hf1
  obtain ⟨e01, e11, e21⟩ := Lw_a hW hf1
  obtain ⟨z1, m20, -⟩ := id hM1
  refine lv_aload_n hx hb dL_law_531 rfl (lv_at hl 2 rfl) ?_
  refine lv_aload_n hx hb dL_law_532 rfl (lv_at hl 4 rfl) ?_
  refine lv_iload hx hb dL_law_533 (lv_at hl 0 rfl) ?_
  refine lv_iconst (v := nI 1) hx hb dL_law_535 (by decide) ?_
  refine fw_addN hx hb dL_law_536 ?_
  refine fw_sld C hX hbl hbA hS (by omega) (i + 1) (by omega) dL_law_537 ?_
  have hm := k_X5_complete l Γ w1 σ th (xs (i + 1)) hI hM1
  rw [e11] at hm
  refine fw_ci hS (fw_rV (rest := [.int r1]) (As := [.int (xs (i + 1))]) C hP hS wV_L_66 hm m20 e11 rfl (fRm_mk rfl rfl (Nat.le_of_ble_eq_true rfl) (Nat.le_of_ble_eq_true rfl) hcc hss (Nat.le_of_ble_eq_true rfl)) rfl hl.1 rfl dL_law_538) (fun r2 w2 H locs hp hP hS => ?_)
  obtain ⟨hr2, hR2, hf2⟩ := hp
  refine lv_icmp_eq (tgt := 726) hx hb dL_law_541 (by decide) (fun c_1 => ?_) (fun c_1 => ?_)
  · exact kk _ w2 H locs ls (Lw_b hW hf1 hR1 hI1 hf2 hR2) hP hS hl
  · exact absurd (hr1.trans hr2.symm) c_1
set_option maxHeartbeats 4000000 in
set_option maxRecDepth 100000 in
theorem lc_comment (C : fC p s m #[Value.ref b] c cL_law 7 RL Γ) (hX : va_X b L xs s s.heap) (hbl : b < s.heap.size) (hbA : ¬ fA Γ b) (hL : L ≤ 3584) (hs9 : l.stackTraces = false) (hi : i + 7 ≤ L) (hW : Lw q0 q1 q2 σ w) (hP : fP Γ w H) (hS : va_S (fA Γ) s.heap H locs) (hl : lv_has ls 7 [(4, .int (nI i)), (3, .ref q2), (2, .ref q1), (1, .ref q0), (0, .ref b)]) (hcc : cells + 5 ≤ room_1.cells) (hss : slots + 1230 ≤ room_1.slots) (kk : ∀ (σ1 : St) (w1 : FW) (H1 : Heap) (locs1 : List Loc) (ls1 : Array Slot), Lw q0 q1 q2 σ1 w1 → fP Γ w1 H1 → va_S (fA Γ) s.heap H1 locs1 → lv_has ls1 7 [(4, .int (nI i)), (3, .ref q2), (2, .ref q1), (1, .ref q0), (0, .ref b)] → W p l e room_1 s m #[Value.ref b] below meth c H1 locs1 (cells + 5) (slots + 1230) Q (F0 m 726 ls1 [])) : W p l e room_1 s m #[Value.ref b] below meth c H locs cells slots Q (F0 m 546 ls []) := by
  have hx := C.1.1
  have hb := C.1.2.1
  obtain ⟨hI, hR, ⟨th, hM⟩, ⟨g, h70⟩, e0, e1, e2⟩ := id hW
  refine lv_aload_n hx hb dL_law_546 rfl (lv_at hl 3 rfl) ?_
  refine lv_aload_n hx hb dL_law_547 rfl (lv_at hl 4 rfl) ?_
  refine lv_iload hx hb dL_law_548 (lv_at hl 0 rfl) ?_
  refine lv_iconst (v := nI 1) hx hb dL_law_550 (by decide) ?_
  refine fw_addN hx hb dL_law_551 ?_
  refine fw_sld C hX hbl hbA hS (by omega) (i + 1) (by omega) dL_law_552 ?_
  refine lv_aload_n hx hb dL_law_553 rfl (lv_at hl 4 rfl) ?_
  refine lv_iload hx hb dL_law_554 (lv_at hl 0 rfl) ?_
  refine lv_iconst (v := nI 2) hx hb dL_law_556 (by decide) ?_
  refine fw_addN hx hb dL_law_557 ?_
  refine fw_sld C hX hbl hbA hS (by omega) (i + 2) (by omega) dL_law_558 ?_
  refine lv_aload_n hx hb dL_law_559 rfl (lv_at hl 4 rfl) ?_
  refine lv_iload hx hb dL_law_560 (lv_at hl 0 rfl) ?_
  refine lv_iconst (v := nI 3) hx hb dL_law_562 (by decide) ?_
  refine fw_addN hx hb dL_law_563 ?_
  refine fw_sld C hX hbl hbA hS (by omega) (i + 3) (by omega) dL_law_564 ?_
  refine lv_i2l (v := (xs (i + 3)).toInt64) hx hb dL_law_565 rfl ?_
  refine lv_bipush (v := nI 32) hx hb dL_law_566 (by decide) ?_
  refine lv_lshl (v := ((xs (i + 3)).toInt64) <<< ((nI 32).toInt64 &&& 63)) hx hb dL_law_568 rfl ?_
  refine lv_aload_n hx hb dL_law_569 rfl (lv_at hl 4 rfl) ?_
  refine lv_iload hx hb dL_law_570 (lv_at hl 0 rfl) ?_
  refine lv_iconst (v := nI 4) hx hb dL_law_572 (by decide) ?_
  refine fw_addN hx hb dL_law_573 ?_
  refine fw_sld C hX hbl hbA hS (by omega) (i + 4) (by omega) dL_law_574 ?_
  refine lv_i2l (v := (xs (i + 4)).toInt64) hx hb dL_law_575 rfl ?_
  refine lv_ldc2 hx hb C.1.2.2.2.1 (C.1.2.2.2.2 _ qk_L_24) dL_law_576 ?_
  refine lv_land hx hb dL_law_579 ?_
  refine lv_lor hx hb dL_law_580 ?_
  have hm := k_X4_comment l Γ w σ (xs (i + 1)) (xs (i + 2)) ((((xs (i + 3)).toInt64) <<< ((nI 32).toInt64 &&& 63)) ||| (((xs (i + 4)).toInt64) &&& 4294967295)) hI hR
  rw [e0] at hm
  refine fw_ci hS (fw_rV (rest := []) (As := [.int (xs (i + 1)), .int (xs (i + 2)), .long ((((xs (i + 3)).toInt64) <<< ((nI 32).toInt64 &&& 63)) ||| (((xs (i + 4)).toInt64) &&& 4294967295))]) C hP hS wV_L_67 hm hR.1 e0 rfl (fRm_mk rfl rfl (Nat.le_of_ble_eq_true rfl) (Nat.le_of_ble_eq_true rfl) hcc hss (Nat.le_of_ble_eq_true rfl)) rfl hl.1 rfl dL_law_581) (fun r1 w1 H locs hp hP hS => ?_)
  obtain ⟨hr1, hR1, hf1⟩ := hp
  have hI1 := Inv_comment (σ := σ) (t := (xs (i + 1))) (u := (xs (i + 2))) (x := ((((xs (i + 3)).toInt64) <<< ((nI 32).toInt64 &&& 63)) ||| (((xs (i + 4)).toInt64) &&& 4294967295))) hI
  have hM1 := Rm_fr hM hf1
  obtain ⟨e01, e11, e21⟩ := Lw_a hW hf1
  obtain ⟨z1, m20, -⟩ := id hM1
  refine lv_aload_n hx hb dL_law_584 rfl (lv_at hl 2 rfl) ?_
  refine lv_aload_n hx hb dL_law_585 rfl (lv_at hl 4 rfl) ?_
  refine lv_iload hx hb dL_law_586 (lv_at hl 0 rfl) ?_
  refine lv_iconst (v := nI 1) hx hb dL_law_588 (by decide) ?_
  refine fw_addN hx hb dL_law_589 ?_
  refine fw_sld C hX hbl hbA hS (by omega) (i + 1) (by omega) dL_law_590 ?_
  refine lv_aload_n hx hb dL_law_591 rfl (lv_at hl 4 rfl) ?_
  refine lv_iload hx hb dL_law_592 (lv_at hl 0 rfl) ?_
  refine lv_iconst (v := nI 2) hx hb dL_law_594 (by decide) ?_
  refine fw_addN hx hb dL_law_595 ?_
  refine fw_sld C hX hbl hbA hS (by omega) (i + 2) (by omega) dL_law_596 ?_
  refine lv_aload_n hx hb dL_law_597 rfl (lv_at hl 4 rfl) ?_
  refine lv_iload hx hb dL_law_598 (lv_at hl 0 rfl) ?_
  refine lv_iconst (v := nI 3) hx hb dL_law_600 (by decide) ?_
  refine fw_addN hx hb dL_law_601 ?_
  refine fw_sld C hX hbl hbA hS (by omega) (i + 3) (by omega) dL_law_602 ?_
  refine lv_i2l (v := (xs (i + 3)).toInt64) hx hb dL_law_603 rfl ?_
  refine lv_bipush (v := nI 32) hx hb dL_law_604 (by decide) ?_
  refine lv_lshl (v := ((xs (i + 3)).toInt64) <<< ((nI 32).toInt64 &&& 63)) hx hb dL_law_606 rfl ?_
  refine lv_aload_n hx hb dL_law_607 rfl (lv_at hl 4 rfl) ?_
  refine lv_iload hx hb dL_law_608 (lv_at hl 0 rfl) ?_
  refine lv_iconst (v := nI 4) hx hb dL_law_610 (by decide) ?_
  refine fw_addN hx hb dL_law_611 ?_
  refine fw_sld C hX hbl hbA hS (by omega) (i + 4) (by omega) dL_law_612 ?_
  refine lv_i2l (v := (xs (i + 4)).toInt64) hx hb dL_law_613 rfl ?_
  refine lv_ldc2 hx hb C.1.2.2.2.1 (C.1.2.2.2.2 _ qk_L_24) dL_law_614 ?_
  refine lv_land hx hb dL_law_617 ?_
  refine lv_lor hx hb dL_law_618 ?_
  have hm := k_X5_comment l Γ w1 σ th (xs (i + 1)) (xs (i + 2)) ((((xs (i + 3)).toInt64) <<< ((nI 32).toInt64 &&& 63)) ||| (((xs (i + 4)).toInt64) &&& 4294967295)) hI hM1
  rw [e11] at hm
  refine fw_ci hS (fw_rV (rest := [.int r1]) (As := [.int (xs (i + 1)), .int (xs (i + 2)), .long ((((xs (i + 3)).toInt64) <<< ((nI 32).toInt64 &&& 63)) ||| (((xs (i + 4)).toInt64) &&& 4294967295))]) C hP hS wV_L_71 hm m20 e11 rfl (fRm_mk rfl rfl (Nat.le_of_ble_eq_true rfl) (Nat.le_of_ble_eq_true rfl) hcc hss (Nat.le_of_ble_eq_true rfl)) rfl hl.1 rfl dL_law_619) (fun r2 w2 H locs hp hP hS => ?_)
  obtain ⟨hr2, hR2, hf2⟩ := hp
  refine lv_icmp_eq (tgt := 726) hx hb dL_law_622 (by decide) (fun c_1 => ?_) (fun c_1 => ?_)
  · exact kk _ w2 H locs ls (Lw_b hW hf1 hR1 hI1 hf2 hR2) hP hS hl
  · exact absurd (hr1.trans hr2.symm) c_1
set_option maxHeartbeats 4000000 in
set_option maxRecDepth 100000 in
theorem lc_digest (C : fC p s m #[Value.ref b] c cL_law 7 RL Γ) (hX : va_X b L xs s s.heap) (hbl : b < s.heap.size) (hbA : ¬ fA Γ b) (hL : L ≤ 3584) (hs9 : l.stackTraces = false) (hi : i + 7 ≤ L) (hW : Lw q0 q1 q2 σ w) (hP : fP Γ w H) (hS : va_S (fA Γ) s.heap H locs) (hl : lv_has ls 7 [(4, .int (nI i)), (3, .ref q2), (2, .ref q1), (1, .ref q0), (0, .ref b)]) (hcc : cells + 5 ≤ room_1.cells) (hss : slots + 1230 ≤ room_1.slots) (kk : ∀ (σ1 : St) (w1 : FW) (H1 : Heap) (locs1 : List Loc) (ls1 : Array Slot), Lw q0 q1 q2 σ1 w1 → fP Γ w1 H1 → va_S (fA Γ) s.heap H1 locs1 → lv_has ls1 7 [(4, .int (nI i)), (3, .ref q2), (2, .ref q1), (1, .ref q0), (0, .ref b)] → W p l e room_1 s m #[Value.ref b] below meth c H1 locs1 (cells + 5) (slots + 1230) Q (F0 m 726 ls1 [])) : W p l e room_1 s m #[Value.ref b] below meth c H locs cells slots Q (F0 m 627 ls []) := by
  have hx := C.1.1
  have hb := C.1.2.1
  obtain ⟨hI, hR, ⟨th, hM⟩, ⟨g, h70⟩, e0, e1, e2⟩ := id hW
  refine lv_aload_n hx hb dL_law_627 rfl (lv_at hl 3 rfl) ?_
  refine lv_aload_n hx hb dL_law_628 rfl (lv_at hl 4 rfl) ?_
  refine lv_iload hx hb dL_law_629 (lv_at hl 0 rfl) ?_
  refine lv_iconst (v := nI 1) hx hb dL_law_631 (by decide) ?_
  refine fw_addN hx hb dL_law_632 ?_
  refine fw_sld C hX hbl hbA hS (by omega) (i + 1) (by omega) dL_law_633 ?_
  refine lv_aload_n hx hb dL_law_634 rfl (lv_at hl 4 rfl) ?_
  refine lv_iload hx hb dL_law_635 (lv_at hl 0 rfl) ?_
  refine lv_iconst (v := nI 2) hx hb dL_law_637 (by decide) ?_
  refine fw_addN hx hb dL_law_638 ?_
  refine fw_sld C hX hbl hbA hS (by omega) (i + 2) (by omega) dL_law_639 ?_
  have hm := k_X4_digest l Γ w σ (xs (i + 1)) (xs (i + 2)) hI hR
  rw [e0] at hm
  refine fw_ci hS (fw_rV (rest := []) (As := [.int (xs (i + 1)), .int (xs (i + 2))]) C hP hS wV_L_72 hm hR.1 e0 rfl (fRm_mk rfl rfl (Nat.le_of_ble_eq_true rfl) (Nat.le_of_ble_eq_true rfl) hcc hss (Nat.le_of_ble_eq_true rfl)) rfl hl.1 rfl dL_law_640) (fun r1 w1 H locs hp hP hS => ?_)
  obtain ⟨hr1, hR1, hf1⟩ := hp
  have hI1 := hI
  have hM1 := Rm_fr hM hf1
  obtain ⟨e01, e11, e21⟩ := Lw_a hW hf1
  obtain ⟨z1, m20, -⟩ := id hM1
  refine lv_aload_n hx hb dL_law_643 rfl (lv_at hl 2 rfl) ?_
  refine lv_aload_n hx hb dL_law_644 rfl (lv_at hl 4 rfl) ?_
  refine lv_iload hx hb dL_law_645 (lv_at hl 0 rfl) ?_
  refine lv_iconst (v := nI 1) hx hb dL_law_647 (by decide) ?_
  refine fw_addN hx hb dL_law_648 ?_
  refine fw_sld C hX hbl hbA hS (by omega) (i + 1) (by omega) dL_law_649 ?_
  refine lv_aload_n hx hb dL_law_650 rfl (lv_at hl 4 rfl) ?_
  refine lv_iload hx hb dL_law_651 (lv_at hl 0 rfl) ?_
  refine lv_iconst (v := nI 2) hx hb dL_law_653 (by decide) ?_
  refine fw_addN hx hb dL_law_654 ?_
  refine fw_sld C hX hbl hbA hS (by omega) (i + 2) (by omega) dL_law_655 ?_
  have hm := k_X5_digest l Γ w1 σ th (xs (i + 1)) (xs (i + 2)) hI hM1
  rw [e11] at hm
  refine fw_ci hS (fw_rV (rest := [.int r1]) (As := [.int (xs (i + 1)), .int (xs (i + 2))]) C hP hS wV_L_76 hm m20 e11 rfl (fRm_mk rfl rfl (Nat.le_of_ble_eq_true rfl) (Nat.le_of_ble_eq_true rfl) hcc hss (Nat.le_of_ble_eq_true rfl)) rfl hl.1 rfl dL_law_656) (fun r2 w2 H locs hp hP hS => ?_)
  obtain ⟨hr2, hR2, hf2⟩ := hp
  refine lv_icmp_eq (tgt := 726) hx hb dL_law_659 (by decide) (fun c_1 => ?_) (fun c_1 => ?_)
  · exact kk _ w2 H locs ls (Lw_b hW hf1 hR1 hI1 hf2 hR2) hP hS hl
  · exact absurd (hr1.trans hr2.symm) c_1
set_option maxHeartbeats 4000000 in
set_option maxRecDepth 100000 in
theorem lc_listed (C : fC p s m #[Value.ref b] c cL_law 7 RL Γ) (hX : va_X b L xs s s.heap) (hbl : b < s.heap.size) (hbA : ¬ fA Γ b) (hL : L ≤ 3584) (hs9 : l.stackTraces = false) (hi : i + 7 ≤ L) (hW : Lw q0 q1 q2 σ w) (hP : fP Γ w H) (hS : va_S (fA Γ) s.heap H locs) (hl : lv_has ls 7 [(4, .int (nI i)), (3, .ref q2), (2, .ref q1), (1, .ref q0), (0, .ref b)]) (hcc : cells + 5 ≤ room_1.cells) (hss : slots + 1230 ≤ room_1.slots) (kk : ∀ (σ1 : St) (w1 : FW) (H1 : Heap) (locs1 : List Loc) (ls1 : Array Slot), Lw q0 q1 q2 σ1 w1 → fP Γ w1 H1 → va_S (fA Γ) s.heap H1 locs1 → lv_has ls1 7 [(4, .int (nI i)), (3, .ref q2), (2, .ref q1), (1, .ref q0), (0, .ref b)] → W p l e room_1 s m #[Value.ref b] below meth c H1 locs1 (cells + 5) (slots + 1230) Q (F0 m 726 ls1 [])) : W p l e room_1 s m #[Value.ref b] below meth c H locs cells slots Q (F0 m 664 ls []) := by
  have hx := C.1.1
  have hb := C.1.2.1
  obtain ⟨hI, hR, ⟨th, hM⟩, ⟨g, h70⟩, e0, e1, e2⟩ := id hW
  refine lv_aload_n hx hb dL_law_664 rfl (lv_at hl 3 rfl) ?_
  refine lv_aload_n hx hb dL_law_665 rfl (lv_at hl 4 rfl) ?_
  refine lv_iload hx hb dL_law_666 (lv_at hl 0 rfl) ?_
  refine lv_iconst (v := nI 1) hx hb dL_law_668 (by decide) ?_
  refine fw_addN hx hb dL_law_669 ?_
  refine fw_sld C hX hbl hbA hS (by omega) (i + 1) (by omega) dL_law_670 ?_
  have hm := k_X4_listed l Γ w σ (xs (i + 1)) hI hR
  rw [e0] at hm
  refine fw_ci hS (fw_rV (rest := []) (As := [.int (xs (i + 1))]) C hP hS wV_L_77 hm hR.1 e0 rfl (fRm_mk rfl rfl (Nat.le_of_ble_eq_true rfl) (Nat.le_of_ble_eq_true rfl) hcc hss (Nat.le_of_ble_eq_true rfl)) rfl hl.1 rfl dL_law_671) (fun r1 w1 H locs hp hP hS => ?_)
  obtain ⟨hr1, hR1, hf1⟩ := hp
  have hI1 := hI
  have hM1 := Rm_fr hM hf1
  obtain ⟨e01, e11, e21⟩ := Lw_a hW hf1
  obtain ⟨z1, m20, -⟩ := id hM1
  refine lv_aload_n hx hb dL_law_674 rfl (lv_at hl 2 rfl) ?_
  refine lv_aload_n hx hb dL_law_675 rfl (lv_at hl 4 rfl) ?_
  refine lv_iload hx hb dL_law_676 (lv_at hl 0 rfl) ?_
  refine lv_iconst (v := nI 1) hx hb dL_law_678 (by decide) ?_
  refine fw_addN hx hb dL_law_679 ?_
  refine fw_sld C hX hbl hbA hS (by omega) (i + 1) (by omega) dL_law_680 ?_
  have hm := k_X5_listed l Γ w1 σ th (xs (i + 1)) hI hM1
  rw [e11] at hm
  refine fw_ci hS (fw_rV (rest := [.int r1]) (As := [.int (xs (i + 1))]) C hP hS wV_L_80 hm m20 e11 rfl (fRm_mk rfl rfl (Nat.le_of_ble_eq_true rfl) (Nat.le_of_ble_eq_true rfl) hcc hss (Nat.le_of_ble_eq_true rfl)) rfl hl.1 rfl dL_law_681) (fun r2 w2 H locs hp hP hS => ?_)
  obtain ⟨hr2, hR2, hf2⟩ := hp
  refine lv_icmp_eq (tgt := 726) hx hb dL_law_684 (by decide) (fun c_1 => ?_) (fun c_1 => ?_)
  · exact kk _ w2 H locs ls (Lw_b hW hf1 hR1 hI1 hf2 hR2) hP hS hl
  · exact absurd (hr1.trans hr2.symm) c_1
set_option maxHeartbeats 4000000 in
set_option maxRecDepth 100000 in
theorem lc_needs (C : fC p s m #[Value.ref b] c cL_law 7 RL Γ) (hX : va_X b L xs s s.heap) (hbl : b < s.heap.size) (hbA : ¬ fA Γ b) (hL : L ≤ 3584) (hs9 : l.stackTraces = false) (hi : i + 7 ≤ L) (hW : Lw q0 q1 q2 σ w) (hP : fP Γ w H) (hS : va_S (fA Γ) s.heap H locs) (hl : lv_has ls 7 [(4, .int (nI i)), (3, .ref q2), (2, .ref q1), (1, .ref q0), (0, .ref b)]) (hcc : cells + 5 ≤ room_1.cells) (hss : slots + 1230 ≤ room_1.slots) (kk : ∀ (σ1 : St) (w1 : FW) (H1 : Heap) (locs1 : List Loc) (ls1 : Array Slot), Lw q0 q1 q2 σ1 w1 → fP Γ w1 H1 → va_S (fA Γ) s.heap H1 locs1 → lv_has ls1 7 [(4, .int (nI i)), (3, .ref q2), (2, .ref q1), (1, .ref q0), (0, .ref b)] → W p l e room_1 s m #[Value.ref b] below meth c H1 locs1 (cells + 5) (slots + 1230) Q (F0 m 726 ls1 [])) : W p l e room_1 s m #[Value.ref b] below meth c H locs cells slots Q (F0 m 689 ls []) := by
  have hx := C.1.1
  have hb := C.1.2.1
  obtain ⟨hI, hR, ⟨th, hM⟩, ⟨g, h70⟩, e0, e1, e2⟩ := id hW
  refine lv_aload_n hx hb dL_law_689 rfl (lv_at hl 3 rfl) ?_
  refine lv_aload_n hx hb dL_law_690 rfl (lv_at hl 4 rfl) ?_
  refine lv_iload hx hb dL_law_691 (lv_at hl 0 rfl) ?_
  refine lv_iconst (v := nI 1) hx hb dL_law_693 (by decide) ?_
  refine fw_addN hx hb dL_law_694 ?_
  refine fw_sld C hX hbl hbA hS (by omega) (i + 1) (by omega) dL_law_695 ?_
  refine lv_aload_n hx hb dL_law_696 rfl (lv_at hl 4 rfl) ?_
  refine lv_iload hx hb dL_law_697 (lv_at hl 0 rfl) ?_
  refine lv_iconst (v := nI 2) hx hb dL_law_699 (by decide) ?_
  refine fw_addN hx hb dL_law_700 ?_
  refine fw_sld C hX hbl hbA hS (by omega) (i + 2) (by omega) dL_law_701 ?_
  have hm := k_X4_needs l Γ w σ (xs (i + 1)) (xs (i + 2)) hI hR
  rw [e0] at hm
  refine fw_ci hS (fw_rV (rest := []) (As := [.int (xs (i + 1)), .int (xs (i + 2))]) C hP hS wV_L_81 hm hR.1 e0 rfl (fRm_mk rfl rfl (Nat.le_of_ble_eq_true rfl) (Nat.le_of_ble_eq_true rfl) hcc hss (Nat.le_of_ble_eq_true rfl)) rfl hl.1 rfl dL_law_702) (fun r1 w1 H locs hp hP hS => ?_)
  obtain ⟨hr1, hR1, hf1⟩ := hp
  have hI1 := Inv_needs (σ := σ) (t := (xs (i + 1))) (m := (xs (i + 2))) hI
  have hM1 := Rm_fr hM hf1
  obtain ⟨e01, e11, e21⟩ := Lw_a hW hf1
  obtain ⟨z1, m20, -⟩ := id hM1
  refine lv_aload_n hx hb dL_law_705 rfl (lv_at hl 2 rfl) ?_
  refine lv_aload_n hx hb dL_law_706 rfl (lv_at hl 4 rfl) ?_
  refine lv_iload hx hb dL_law_707 (lv_at hl 0 rfl) ?_
  refine lv_iconst (v := nI 1) hx hb dL_law_709 (by decide) ?_
  refine fw_addN hx hb dL_law_710 ?_
  refine fw_sld C hX hbl hbA hS (by omega) (i + 1) (by omega) dL_law_711 ?_
  refine lv_aload_n hx hb dL_law_712 rfl (lv_at hl 4 rfl) ?_
  refine lv_iload hx hb dL_law_713 (lv_at hl 0 rfl) ?_
  refine lv_iconst (v := nI 2) hx hb dL_law_715 (by decide) ?_
  refine fw_addN hx hb dL_law_716 ?_
  refine fw_sld C hX hbl hbA hS (by omega) (i + 2) (by omega) dL_law_717 ?_
  have hm := k_X5_needs l Γ w1 σ th (xs (i + 1)) (xs (i + 2)) hI hM1
  rw [e11] at hm
  refine fw_ci hS (fw_rV (rest := [.int r1]) (As := [.int (xs (i + 1)), .int (xs (i + 2))]) C hP hS wV_L_84 hm m20 e11 rfl (fRm_mk rfl rfl (Nat.le_of_ble_eq_true rfl) (Nat.le_of_ble_eq_true rfl) hcc hss (Nat.le_of_ble_eq_true rfl)) rfl hl.1 rfl dL_law_718) (fun r2 w2 H locs hp hP hS => ?_)
  obtain ⟨hr2, hR2, hf2⟩ := hp
  refine lv_icmp_eq (tgt := 726) hx hb dL_law_721 (by decide) (fun c_1 => ?_) (fun c_1 => ?_)
  · exact kk _ w2 H locs ls (Lw_b hW hf1 hR1 hI1 hf2 hR2) hP hS hl
  · exact absurd (hr1.trans hr2.symm) c_1
set_option maxHeartbeats 4000000 in
set_option maxRecDepth 100000 in
theorem lc_sign (C : fC p s m #[Value.ref b] c cL_law 7 RL Γ) (hX : va_X b L xs s s.heap) (hbl : b < s.heap.size) (hbA : ¬ fA Γ b) (hL : L ≤ 3584) (hs9 : l.stackTraces = false) (hi : i + 7 ≤ L) (hW : Lw q0 q1 q2 σ w) (hP : fP Γ w H) (hS : va_S (fA Γ) s.heap H locs) (hl : lv_has ls 7 [(4, .int (nI i)), (3, .ref q2), (2, .ref q1), (1, .ref q0), (0, .ref b)]) (hcc : cells + 5 ≤ room_1.cells) (hss : slots + 1230 ≤ room_1.slots) (kk : ∀ (σ1 : St) (w1 : FW) (H1 : Heap) (locs1 : List Loc) (ls1 : Array Slot), Lw q0 q1 q2 σ1 w1 → fP Γ w1 H1 → va_S (fA Γ) s.heap H1 locs1 → lv_has ls1 7 [(4, .int (nI i)), (3, .ref q2), (2, .ref q1), (1, .ref q0), (0, .ref b)] → W p l e room_1 s m #[Value.ref b] below meth c H1 locs1 (cells + 5) (slots + 1230) Q (F0 m 726 ls1 [])) : W p l e room_1 s m #[Value.ref b] below meth c H locs cells slots Q (F0 m 310 ls []) := by
  have hx := C.1.1
  have hb := C.1.2.1
  obtain ⟨hI, hR, ⟨th, hM⟩, ⟨g, h70⟩, e0, e1, e2⟩ := id hW
  refine lv_aload_n hx hb dL_law_310 rfl (lv_at hl 3 rfl) ?_
  refine lv_aload_n hx hb dL_law_311 rfl (lv_at hl 4 rfl) ?_
  refine lv_iload hx hb dL_law_312 (lv_at hl 0 rfl) ?_
  refine lv_iconst (v := nI 1) hx hb dL_law_314 (by decide) ?_
  refine fw_addN hx hb dL_law_315 ?_
  refine fw_sld C hX hbl hbA hS (by omega) (i + 1) (by omega) dL_law_316 ?_
  refine lv_aload_n hx hb dL_law_317 rfl (lv_at hl 4 rfl) ?_
  refine lv_iload hx hb dL_law_318 (lv_at hl 0 rfl) ?_
  refine lv_iconst (v := nI 2) hx hb dL_law_320 (by decide) ?_
  refine fw_addN hx hb dL_law_321 ?_
  refine fw_sld C hX hbl hbA hS (by omega) (i + 2) (by omega) dL_law_322 ?_
  refine lv_aload_n hx hb dL_law_323 rfl (lv_at hl 4 rfl) ?_
  refine lv_iload hx hb dL_law_324 (lv_at hl 0 rfl) ?_
  refine lv_iconst (v := nI 3) hx hb dL_law_326 (by decide) ?_
  refine fw_addN hx hb dL_law_327 ?_
  refine fw_sld C hX hbl hbA hS (by omega) (i + 3) (by omega) dL_law_328 ?_
  refine lv_aload_n hx hb dL_law_329 rfl (lv_at hl 4 rfl) ?_
  refine lv_iload hx hb dL_law_330 (lv_at hl 0 rfl) ?_
  refine lv_iconst (v := nI 4) hx hb dL_law_332 (by decide) ?_
  refine fw_addN hx hb dL_law_333 ?_
  refine fw_sld C hX hbl hbA hS (by omega) (i + 4) (by omega) dL_law_334 ?_
  refine lv_i2l (v := (xs (i + 4)).toInt64) hx hb dL_law_335 rfl ?_
  refine lv_bipush (v := nI 32) hx hb dL_law_336 (by decide) ?_
  refine lv_lshl (v := ((xs (i + 4)).toInt64) <<< ((nI 32).toInt64 &&& 63)) hx hb dL_law_338 rfl ?_
  refine lv_aload_n hx hb dL_law_339 rfl (lv_at hl 4 rfl) ?_
  refine lv_iload hx hb dL_law_340 (lv_at hl 0 rfl) ?_
  refine lv_iconst (v := nI 5) hx hb dL_law_342 (by decide) ?_
  refine fw_addN hx hb dL_law_343 ?_
  refine fw_sld C hX hbl hbA hS (by omega) (i + 5) (by omega) dL_law_344 ?_
  refine lv_i2l (v := (xs (i + 5)).toInt64) hx hb dL_law_345 rfl ?_
  refine lv_ldc2 hx hb C.1.2.2.2.1 (C.1.2.2.2.2 _ qk_L_24) dL_law_346 ?_
  refine lv_land hx hb dL_law_349 ?_
  refine lv_lor hx hb dL_law_350 ?_
  refine lv_aload_n hx hb dL_law_351 rfl (lv_at hl 1 rfl) ?_
  have hm := k_L_sign l Γ w σ (xs (i + 1)) (xs (i + 2)) (xs (i + 3)) ((((xs (i + 4)).toInt64) <<< ((nI 32).toInt64 &&& 63)) ||| (((xs (i + 5)).toInt64) &&& 4294967295)) g hs9 hI hR h70
  rw [e0, e2] at hm
  refine fw_ci hS (fw_rSW (n := 6) (rest := []) (As := [.ref q0, .int (xs (i + 1)), .int (xs (i + 2)), .int (xs (i + 3)), .long ((((xs (i + 4)).toInt64) <<< ((nI 32).toInt64 &&& 63)) ||| (((xs (i + 5)).toInt64) &&& 4294967295)), .ref q2]) C hP hS qm_L_41 qs_L_sign qn_L qc_L_sign (by decide +kernel) (by decide +kernel) hm (fRm_mk rfl rfl (Nat.le_of_ble_eq_true rfl) (Nat.le_of_ble_eq_true rfl) hcc hss (Nat.le_of_ble_eq_true rfl)) rfl hl.1 rfl dL_law_352) (fun r1 w1 H locs hp hP hS => ?_)
  obtain ⟨hr1, w9, f1, hf1, hR9, h71, hw1, hv1⟩ := hp
  obtain ⟨e01, e11, e21⟩ := Lw_a hW hf1
  have e01 : w1.1 0 0 = q0 := by rw [hw1]; exact e01
  have e11 : w1.1 20 0 = q1 := by rw [hw1]; exact e11
  have e21 : w1.1 70 0 = q2 := by rw [hw1]; exact e21
  have hR1 : Rc (n_sign σ (xs (i + 1)) (xs (i + 2)) (xs (i + 3)) ((((xs (i + 4)).toInt64) <<< ((nI 32).toInt64 &&& 63)) ||| (((xs (i + 5)).toInt64) &&& 4294967295))) w1 := by rw [hw1]; exact Rc_same hR9 (fun k hk => sk_set sk_rf (by omega))
  have hM1 : Rm σ th w1 := by rw [hw1]; exact Rm_same (Rm_fr hM hf1) (fun k h1 h2 => fset_ne (by omega)) (fun _ _ _ _ => rfl)
  have h72 : w1.2 70 0 = some (aL 1 f1) := by rw [hw1]; exact fset_at
  have hI1 : Inv (n_sign σ (xs (i + 1)) (xs (i + 2)) (xs (i + 3)) ((((xs (i + 4)).toInt64) <<< ((nI 32).toInt64 &&& 63)) ||| (((xs (i + 5)).toInt64) &&& 4294967295))) := Inv_sign hI
  obtain ⟨z1, m20, -⟩ := id hM1
  clear hw1
  refine lv_istore (lv' := [(5, .int r1), (4, .int (nI i)), (3, .ref q2), (2, .ref q1), (1, .ref q0), (0, .ref b)]) hx hb dL_law_355 hl (by decide) rfl (fun ls hl => ?_)
  refine lv_aload_n hx hb dL_law_357 rfl (lv_at hl 3 rfl) ?_
  refine lv_aload_n hx hb dL_law_358 rfl (lv_at hl 5 rfl) ?_
  refine lv_iload hx hb dL_law_359 (lv_at hl 1 rfl) ?_
  refine lv_iconst (v := nI 1) hx hb dL_law_361 (by decide) ?_
  refine fw_addN hx hb dL_law_362 ?_
  refine fw_sld C hX hbl hbA hS (by omega) (i + 1) (by omega) dL_law_363 ?_
  refine lv_aload_n hx hb dL_law_364 rfl (lv_at hl 5 rfl) ?_
  refine lv_iload hx hb dL_law_365 (lv_at hl 1 rfl) ?_
  refine lv_iconst (v := nI 2) hx hb dL_law_367 (by decide) ?_
  refine fw_addN hx hb dL_law_368 ?_
  refine fw_sld C hX hbl hbA hS (by omega) (i + 2) (by omega) dL_law_369 ?_
  refine lv_aload_n hx hb dL_law_370 rfl (lv_at hl 5 rfl) ?_
  refine lv_iload hx hb dL_law_371 (lv_at hl 1 rfl) ?_
  refine lv_iconst (v := nI 3) hx hb dL_law_373 (by decide) ?_
  refine fw_addN hx hb dL_law_374 ?_
  refine fw_sld C hX hbl hbA hS (by omega) (i + 3) (by omega) dL_law_375 ?_
  refine lv_aload_n hx hb dL_law_376 rfl (lv_at hl 5 rfl) ?_
  refine lv_iload hx hb dL_law_377 (lv_at hl 1 rfl) ?_
  refine lv_iconst (v := nI 4) hx hb dL_law_379 (by decide) ?_
  refine fw_addN hx hb dL_law_380 ?_
  refine fw_sld C hX hbl hbA hS (by omega) (i + 4) (by omega) dL_law_381 ?_
  refine lv_i2l (v := (xs (i + 4)).toInt64) hx hb dL_law_382 rfl ?_
  refine lv_bipush (v := nI 32) hx hb dL_law_383 (by decide) ?_
  refine lv_lshl (v := ((xs (i + 4)).toInt64) <<< ((nI 32).toInt64 &&& 63)) hx hb dL_law_385 rfl ?_
  refine lv_aload_n hx hb dL_law_386 rfl (lv_at hl 5 rfl) ?_
  refine lv_iload hx hb dL_law_387 (lv_at hl 1 rfl) ?_
  refine lv_iconst (v := nI 5) hx hb dL_law_389 (by decide) ?_
  refine fw_addN hx hb dL_law_390 ?_
  refine fw_sld C hX hbl hbA hS (by omega) (i + 5) (by omega) dL_law_391 ?_
  refine lv_i2l (v := (xs (i + 5)).toInt64) hx hb dL_law_392 rfl ?_
  refine lv_ldc2 hx hb C.1.2.2.2.1 (C.1.2.2.2.2 _ qk_L_24) dL_law_393 ?_
  refine lv_land hx hb dL_law_396 ?_
  refine lv_lor hx hb dL_law_397 ?_
  have hm := k_X5_sign l Γ w1 σ th (xs (i + 1)) (xs (i + 2)) (xs (i + 3)) ((((xs (i + 4)).toInt64) <<< ((nI 32).toInt64 &&& 63)) ||| (((xs (i + 5)).toInt64) &&& 4294967295)) hI hM1
  rw [e11] at hm
  refine fw_ci hS (fw_rV (rest := []) (As := [.int (xs (i + 1)), .int (xs (i + 2)), .int (xs (i + 3)), .long ((((xs (i + 4)).toInt64) <<< ((nI 32).toInt64 &&& 63)) ||| (((xs (i + 5)).toInt64) &&& 4294967295))]) C hP hS wV_L_46 hm m20 e11 rfl (fRm_mk rfl rfl (Nat.le_of_ble_eq_true rfl) (Nat.le_of_ble_eq_true rfl) hcc hss (Nat.le_of_ble_eq_true rfl)) rfl hl.1 rfl dL_law_398) (fun r2 w2 H locs hp hP hS => ?_)
  obtain ⟨hr2, hR2, hf2⟩ := hp
  have e12 : w2.1 20 0 = q1 := by rw [hf2.1]; exact e11
  have e22 : w2.1 70 0 = q2 := by rw [hf2.1]; exact e21
  have h73 : w2.2 70 0 = some (aL 1 f1) := (hf2.2 70 0 (by omega)).trans h72
  obtain ⟨z2, m22, -⟩ := id hR2
  refine lv_istore (lv' := [(6, .int r2), (5, .int r1), (4, .int (nI i)), (3, .ref q2), (2, .ref q1), (1, .ref q0), (0, .ref b)]) hx hb dL_law_401 hl (by decide) rfl (fun ls hl => ?_)
  refine lv_aload_n hx hb dL_law_403 rfl (lv_at hl 4 rfl) ?_
  have hm := k_X5_thrown l Γ w2 (n_sign σ (xs (i + 1)) (xs (i + 2)) (xs (i + 3)) ((((xs (i + 4)).toInt64) <<< ((nI 32).toInt64 &&& 63)) ||| (((xs (i + 5)).toInt64) &&& 4294967295))) (b2i (a_sign σ (xs (i + 1)) (xs (i + 2)) (xs (i + 3)) ((((xs (i + 4)).toInt64) <<< ((nI 32).toInt64 &&& 63)) ||| (((xs (i + 5)).toInt64) &&& 4294967295))).isNone) z2 m22
  rw [e12] at hm
  refine fw_ci0 (w := w2) hS (fw_rV (rest := []) (As := []) C hP hS wV_L_47 hm m22 e12 rfl (fRm_mk rfl rfl (Nat.le_of_ble_eq_true rfl) (Nat.le_of_ble_eq_true rfl) hcc hss (Nat.le_of_ble_eq_true rfl)) rfl hl.1 rfl dL_law_404) (fun H locs hP hS => ?_)
  refine lv_iload hx hb dL_law_407 (lv_at hl 1 rfl) ?_
  refine lv_icmp_eq (tgt := 414) hx hb dL_law_409 (by decide) (fun c_409 => ?_) (fun c_409 => ?_)
  · refine lv_iload hx hb dL_law_414 (lv_at hl 1 rfl) ?_
    refine lv_if_ne (tgt := 431) hx hb dL_law_416 (by decide) (fun c_416 => ?_) (fun c_416 => ?_)
    · refine lv_goto (tgt := 726) hx hb dL_law_431 (by decide) ?_
      exact kk (n_sign σ (xs (i + 1)) (xs (i + 2)) (xs (i + 3)) ((((xs (i + 4)).toInt64) <<< ((nI 32).toInt64 &&& 63)) ||| (((xs (i + 5)).toInt64) &&& 4294967295))) w2 H locs ls ⟨hI1, Rc_frm hR1 hf2, ⟨_, hR2⟩, ⟨f1, h73⟩, by rw [hf2.1]; exact e01, e12, e22⟩ hP hS (lv_sub hl [2, 3, 4, 5, 6] rfl)
    · refine lv_aload_n hx hb dL_law_419 rfl (lv_at hl 3 rfl) ?_
      refine lv_iconst (v := nI 0) hx hb dL_law_420 (by decide) ?_
      refine fw_lald C hP h73 e22 0 rfl (by omega) (by decide) dL_law_421 ?_
      refine lv_iload hx hb dL_law_422 (lv_at hl 0 rfl) ?_
      refine lv_i2l (v := r2.toInt64) hx hb dL_law_424 rfl ?_
      refine W.lcmp hx hb dL_law_425 ?_
      refine fw_leq (tgt := 431) hx hb dL_law_426 (by decide) (fun c_426 => ?_) (fun c_426 => ?_)
      · refine lv_goto (tgt := 726) hx hb dL_law_431 (by decide) ?_
        exact kk (n_sign σ (xs (i + 1)) (xs (i + 2)) (xs (i + 3)) ((((xs (i + 4)).toInt64) <<< ((nI 32).toInt64 &&& 63)) ||| (((xs (i + 5)).toInt64) &&& 4294967295))) w2 H locs ls ⟨hI1, Rc_frm hR1 hf2, ⟨_, hR2⟩, ⟨f1, h73⟩, by rw [hf2.1]; exact e01, e12, e22⟩ hP hS (lv_sub hl [2, 3, 4, 5, 6] rfl)
      · rw [hr1] at c_416
        cases h9 : a_sign σ (xs (i + 1)) (xs (i + 2)) (xs (i + 3)) ((((xs (i + 4)).toInt64) <<< ((nI 32).toInt64 &&& 63)) ||| (((xs (i + 5)).toInt64) &&& 4294967295)) with
        | none => rw [h9] at c_416; exact absurd c_416 (by decide)
        | some v => exact absurd (by rw [hv1 v h9, hr2 v h9]) c_426
  · exact absurd hr1.symm c_409
end LAW
