set_option maxHeartbeats 4000000 in
set_option maxRecDepth 100000 in
theorem law_c0 {p : Program} {l : Launch} {e : Env} {s : State} {m : MethodId} {below : List Frame} {meth : Method} {c : Code} {D : va_G} {cI cZ cJ : ClassId} {b L : Nat} {xs : Nat → Int32} {Rel : jS → jS → Prop} (hstt : l.stackTraces = false) (hL : L ≤ 2560) (E : jE p s m #[Value.ref b] meth c cL_law 7 RL wsL_law D (jT3 cI cZ cJ) (fun q => s.heap.size ≤ q)) (hxn : xN s) (hxz : xZ (fun q => s.heap.size ≤ q) s s.heap) (hxc : xNc s) (hX : va_X b L xs s s.heap) (hbl : b < s.heap.size) (HR : LawHyp Rel) {t : Nat} (ht : 5 * t + 5 ≤ L) {ax : Nat → Nat} {ao : Nat} (hnext : ∀ (ad : Nat → Nat) (x ms : jS) (out : Nat → Int64), Rel x ms → J p l e room_1 s m #[Value.ref b] below meth c 7 D (fun q => s.heap.size ≤ q) (wL ax ao cI cZ cJ) (lw_Z below #[Value.ref b] s) (80 + 10 * (t + 1)) (8000 + 1800 * (t + 1)) ((x, out), (ad, ms)) 1152 [(0, .ref b), (1, .ref (ax 0)), (2, .ref (ad 0)), (3, .ref ao), (4, .int (nI (5 * t)))] []) {ad : Nat → Nat} {x ms : jS} {out : Nat → Int64} (hR : Rel x ms) : J p l e room_1 s m #[Value.ref b] below meth c 7 D (fun q => s.heap.size ≤ q) (wL ax ao cI cZ cJ) (lw_Z below #[Value.ref b] s) (80 + 10 * t) (8000 + 1800 * t) ((x, out), (ad, ms)) 140 [(0, .ref b), (1, .ref (ax 0)), (2, .ref (ad 0)), (3, .ref ao), (4, .int (nI (5 * t)))] [] := by
  obtain ⟨w1, hw1⟩ : ∃ z, xs (nI (5 * t) + nI 1).toNatClampNeg = z := ⟨_, rfl⟩
  obtain ⟨w2, hw2⟩ : ∃ z, xs (nI (5 * t) + nI 2).toNatClampNeg = z := ⟨_, rfl⟩
  obtain ⟨w3, hw3⟩ : ∃ z, xs (nI (5 * t) + nI 3).toNatClampNeg = z := ⟨_, rfl⟩
  obtain ⟨w4, hw4⟩ : ∃ z, xs (nI (5 * t) + nI 4).toNatClampNeg = z := ⟨_, rfl⟩
  refine j_aload_n E 1 rfl rfl dL_law_140 ?_
  refine j_aload_n E 0 rfl rfl dL_law_141 ?_
  refine j_iload E 4 rfl dL_law_142 ?_
  refine j_iconst E ((by decide : Int32.ofInt (1) = 1)) dL_law_144 ?_
  refine j_iadd E dL_law_145 ?_
  refine j_sld E hX hbl (Nat.not_le.mpr hbl) (jsk (k := 1) (by omega) ht hL) dL_law_146 ?_
  refine j_topi hw1 ?_
  refine j_aload_n E 3 rfl rfl dL_law_147 ?_
  obtain ⟨o1, q1, e1, e2, e3, e4, hR1⟩ := (HR.1) x ms out (w1) hR
  refine j_callW E hxn hxz hxc (As := [.ref (ax 0), .int w1, .ref ao]) (c_L_plain hstt e1) (vx_cwSW 3 E.1.2.2.2.2 gL_law_L_plain rfl rfl rfl (by decide +kernel) ⟨Nat.le_of_ble_eq_true rfl, Nat.le_of_ble_eq_true rfl⟩) rfl rfl (Nat.le_of_ble_eq_true rfl) ⟨by show 80 + 10 * t + 1 ≤ 601024; omega, by show 8000 + 1800 * t + 6 ≤ 7293034; omega⟩ dL_law_148 ?_
  refine j_st (st' := (o1.2, (ad, ms))) rfl ?_
  refine j_istore E (by decide) (lv' := [(5, .int o1.1), (0, .ref b), (1, .ref (ax 0)), (2, .ref (ad 0)), (3, .ref ao), (4, .int (nI (5 * t)))]) rfl dL_law_151 ?_
  refine j_aload_n E 3 rfl rfl dL_law_153 ?_
  refine j_aload_n E 1 rfl rfl dL_law_154 ?_
  refine j_iload E 5 rfl dL_law_155 ?_
  refine j_iconst E ((by decide : Int32.ofInt (1) = 1)) dL_law_157 ?_
  refine j_iadd E dL_law_158 ?_
  refine j_sld E hX hbl (Nat.not_le.mpr hbl) (jsk (k := 1) (by omega) ht hL) dL_law_159 ?_
  refine j_topi hw1 ?_
  refine j_callMi E (As := [.int w1]) (c_X6_plain e2) (cwV 1 E.1.2.2.2.2 gL_law_X6_plain rfl rfl rfl (by decide +kernel) ⟨Nat.le_of_ble_eq_true rfl, Nat.le_of_ble_eq_true rfl⟩) rfl rfl (Nat.le_of_ble_eq_true rfl) ⟨by show 80 + 10 * t + 1 ≤ 601024; omega, by show 8000 + 1800 * t + 6 ≤ 7293034; omega⟩ dL_law_160 ?_
  refine j_st (st' := (o1.2, (ad, q1.2))) rfl ?_
  refine j_istore E (by decide) (lv' := [(6, .int q1.1), (5, .int o1.1), (0, .ref b), (1, .ref (ax 0)), (2, .ref (ad 0)), (3, .ref ao), (4, .int (nI (5 * t)))]) rfl dL_law_163 ?_
  refine j_aload_n E 4 rfl rfl dL_law_165 ?_
  refine j_callMi E (As := []) (c_X6_thrown (o := (q1.2.2 0, q1.2)) rfl) (cwV 0 E.1.2.2.2.2 gL_law_X6_thrown rfl rfl rfl (by decide +kernel) ⟨Nat.le_of_ble_eq_true rfl, Nat.le_of_ble_eq_true rfl⟩) rfl rfl (Nat.le_of_ble_eq_true rfl) ⟨by show 80 + 10 * t + 1 ≤ 601024; omega, by show 8000 + 1800 * t + 6 ≤ 7293034; omega⟩ dL_law_166 ?_
  refine j_st (st' := (o1.2, (ad, q1.2))) rfl ?_
  refine j_iload E 1 rfl dL_law_169 ?_
  refine j_icmp_eq E (tgt := 176) (by decide) dL_law_171 (fun c1 => ?_) (fun c1 => absurd e3 c1)
  refine j_iload E 1 rfl dL_law_176 ?_
  refine j_if_ne E (tgt := 193) (by decide) dL_law_178 (fun c0 => ?_) (fun c0 => ?_)
  · skip
    refine j_goto E (tgt := 1152) (by decide) dL_law_193 ?_
    refine j_sub [2, 3, 4, 5, 6] (lv' := [(0, .ref b), (1, .ref (ax 0)), (2, .ref (ad 0)), (3, .ref ao), (4, .int (nI (5 * t)))]) rfl ?_
    refine j_widen (k := 80 + 10 * (t + 1)) (n := 8000 + 1800 * (t + 1)) (by omega) (by omega) ?_
    exact hnext _ _ _ _ hR1
  · skip
    refine j_aload_n E 5 rfl rfl dL_law_181 ?_
    refine j_iconst E ((by decide : Int32.ofInt (0) = 0)) dL_law_182 ?_
    refine j_laldL E (job_in (by decide)) dL_law_183 ?_
    refine j_iload E 0 rfl dL_law_184 ?_
    refine j_i2l E dL_law_186 ?_
    refine j_lcmp E dL_law_187 ?_
    refine j_if_eq E (tgt := 193) (by decide) dL_law_188 (fun c3 => ?_) (fun c3 => absurd (lgc (e4 c0)) c3)
    refine j_goto E (tgt := 1152) (by decide) dL_law_193 ?_
    refine j_sub [2, 3, 4, 5, 6] (lv' := [(0, .ref b), (1, .ref (ax 0)), (2, .ref (ad 0)), (3, .ref ao), (4, .int (nI (5 * t)))]) rfl ?_
    refine j_widen (k := 80 + 10 * (t + 1)) (n := 8000 + 1800 * (t + 1)) (by omega) (by omega) ?_
    exact hnext _ _ _ _ hR1
set_option maxHeartbeats 4000000 in
set_option maxRecDepth 100000 in
theorem law_c1 {p : Program} {l : Launch} {e : Env} {s : State} {m : MethodId} {below : List Frame} {meth : Method} {c : Code} {D : va_G} {cI cZ cJ : ClassId} {b L : Nat} {xs : Nat → Int32} {Rel : jS → jS → Prop} (hstt : l.stackTraces = false) (hL : L ≤ 2560) (E : jE p s m #[Value.ref b] meth c cL_law 7 RL wsL_law D (jT3 cI cZ cJ) (fun q => s.heap.size ≤ q)) (hxn : xN s) (hxz : xZ (fun q => s.heap.size ≤ q) s s.heap) (hxc : xNc s) (hX : va_X b L xs s s.heap) (hbl : b < s.heap.size) (HR : LawHyp Rel) {t : Nat} (ht : 5 * t + 5 ≤ L) {ax : Nat → Nat} {ao : Nat} (hnext : ∀ (ad : Nat → Nat) (x ms : jS) (out : Nat → Int64), Rel x ms → J p l e room_1 s m #[Value.ref b] below meth c 7 D (fun q => s.heap.size ≤ q) (wL ax ao cI cZ cJ) (lw_Z below #[Value.ref b] s) (80 + 10 * (t + 1)) (8000 + 1800 * (t + 1)) ((x, out), (ad, ms)) 1152 [(0, .ref b), (1, .ref (ax 0)), (2, .ref (ad 0)), (3, .ref ao), (4, .int (nI (5 * t)))] []) {ad : Nat → Nat} {x ms : jS} {out : Nat → Int64} (hR : Rel x ms) : J p l e room_1 s m #[Value.ref b] below meth c 7 D (fun q => s.heap.size ≤ q) (wL ax ao cI cZ cJ) (lw_Z below #[Value.ref b] s) (80 + 10 * t) (8000 + 1800 * t) ((x, out), (ad, ms)) 196 [(0, .ref b), (1, .ref (ax 0)), (2, .ref (ad 0)), (3, .ref ao), (4, .int (nI (5 * t)))] [] := by
  obtain ⟨w1, hw1⟩ : ∃ z, xs (nI (5 * t) + nI 1).toNatClampNeg = z := ⟨_, rfl⟩
  obtain ⟨w2, hw2⟩ : ∃ z, xs (nI (5 * t) + nI 2).toNatClampNeg = z := ⟨_, rfl⟩
  obtain ⟨w3, hw3⟩ : ∃ z, xs (nI (5 * t) + nI 3).toNatClampNeg = z := ⟨_, rfl⟩
  obtain ⟨w4, hw4⟩ : ∃ z, xs (nI (5 * t) + nI 4).toNatClampNeg = z := ⟨_, rfl⟩
  refine j_aload_n E 1 rfl rfl dL_law_196 ?_
  refine j_aload_n E 0 rfl rfl dL_law_197 ?_
  refine j_iload E 4 rfl dL_law_198 ?_
  refine j_iconst E ((by decide : Int32.ofInt (1) = 1)) dL_law_200 ?_
  refine j_iadd E dL_law_201 ?_
  refine j_sld E hX hbl (Nat.not_le.mpr hbl) (jsk (k := 1) (by omega) ht hL) dL_law_202 ?_
  refine j_topi hw1 ?_
  refine j_aload_n E 0 rfl rfl dL_law_203 ?_
  refine j_iload E 4 rfl dL_law_204 ?_
  refine j_iconst E ((by decide : Int32.ofInt (2) = 2)) dL_law_206 ?_
  refine j_iadd E dL_law_207 ?_
  refine j_sld E hX hbl (Nat.not_le.mpr hbl) (jsk (k := 2) (by omega) ht hL) dL_law_208 ?_
  refine j_topi hw2 ?_
  refine j_aload_n E 3 rfl rfl dL_law_209 ?_
  obtain ⟨o1, q1, e1, e2, e3, e4, hR1⟩ := (HR.2.1) x ms out (w1) (w2) hR
  refine j_callW E hxn hxz hxc (As := [.ref (ax 0), .int w1, .int w2, .ref ao]) (c_L_range hstt e1) (vx_cwSW 4 E.1.2.2.2.2 gL_law_L_range rfl rfl rfl (by decide +kernel) ⟨Nat.le_of_ble_eq_true rfl, Nat.le_of_ble_eq_true rfl⟩) rfl rfl (Nat.le_of_ble_eq_true rfl) ⟨by show 80 + 10 * t + 1 ≤ 601024; omega, by show 8000 + 1800 * t + 6 ≤ 7293034; omega⟩ dL_law_210 ?_
  refine j_st (st' := (o1.2, (ad, ms))) rfl ?_
  refine j_istore E (by decide) (lv' := [(5, .int o1.1), (0, .ref b), (1, .ref (ax 0)), (2, .ref (ad 0)), (3, .ref ao), (4, .int (nI (5 * t)))]) rfl dL_law_213 ?_
  refine j_aload_n E 3 rfl rfl dL_law_215 ?_
  refine j_aload_n E 1 rfl rfl dL_law_216 ?_
  refine j_iload E 5 rfl dL_law_217 ?_
  refine j_iconst E ((by decide : Int32.ofInt (1) = 1)) dL_law_219 ?_
  refine j_iadd E dL_law_220 ?_
  refine j_sld E hX hbl (Nat.not_le.mpr hbl) (jsk (k := 1) (by omega) ht hL) dL_law_221 ?_
  refine j_topi hw1 ?_
  refine j_aload_n E 1 rfl rfl dL_law_222 ?_
  refine j_iload E 5 rfl dL_law_223 ?_
  refine j_iconst E ((by decide : Int32.ofInt (2) = 2)) dL_law_225 ?_
  refine j_iadd E dL_law_226 ?_
  refine j_sld E hX hbl (Nat.not_le.mpr hbl) (jsk (k := 2) (by omega) ht hL) dL_law_227 ?_
  refine j_topi hw2 ?_
  refine j_callMi E (As := [.int w1, .int w2]) (c_X6_range e2) (cwV 2 E.1.2.2.2.2 gL_law_X6_range rfl rfl rfl (by decide +kernel) ⟨Nat.le_of_ble_eq_true rfl, Nat.le_of_ble_eq_true rfl⟩) rfl rfl (Nat.le_of_ble_eq_true rfl) ⟨by show 80 + 10 * t + 1 ≤ 601024; omega, by show 8000 + 1800 * t + 6 ≤ 7293034; omega⟩ dL_law_228 ?_
  refine j_st (st' := (o1.2, (ad, q1.2))) rfl ?_
  refine j_istore E (by decide) (lv' := [(6, .int q1.1), (5, .int o1.1), (0, .ref b), (1, .ref (ax 0)), (2, .ref (ad 0)), (3, .ref ao), (4, .int (nI (5 * t)))]) rfl dL_law_231 ?_
  refine j_aload_n E 4 rfl rfl dL_law_233 ?_
  refine j_callMi E (As := []) (c_X6_thrown (o := (q1.2.2 0, q1.2)) rfl) (cwV 0 E.1.2.2.2.2 gL_law_X6_thrown rfl rfl rfl (by decide +kernel) ⟨Nat.le_of_ble_eq_true rfl, Nat.le_of_ble_eq_true rfl⟩) rfl rfl (Nat.le_of_ble_eq_true rfl) ⟨by show 80 + 10 * t + 1 ≤ 601024; omega, by show 8000 + 1800 * t + 6 ≤ 7293034; omega⟩ dL_law_234 ?_
  refine j_st (st' := (o1.2, (ad, q1.2))) rfl ?_
  refine j_iload E 1 rfl dL_law_237 ?_
  refine j_icmp_eq E (tgt := 244) (by decide) dL_law_239 (fun c1 => ?_) (fun c1 => absurd e3 c1)
  refine j_iload E 1 rfl dL_law_244 ?_
  refine j_if_ne E (tgt := 261) (by decide) dL_law_246 (fun c0 => ?_) (fun c0 => ?_)
  · skip
    refine j_goto E (tgt := 1152) (by decide) dL_law_261 ?_
    refine j_sub [2, 3, 4, 5, 6] (lv' := [(0, .ref b), (1, .ref (ax 0)), (2, .ref (ad 0)), (3, .ref ao), (4, .int (nI (5 * t)))]) rfl ?_
    refine j_widen (k := 80 + 10 * (t + 1)) (n := 8000 + 1800 * (t + 1)) (by omega) (by omega) ?_
    exact hnext _ _ _ _ hR1
  · skip
    refine j_aload_n E 5 rfl rfl dL_law_249 ?_
    refine j_iconst E ((by decide : Int32.ofInt (0) = 0)) dL_law_250 ?_
    refine j_laldL E (job_in (by decide)) dL_law_251 ?_
    refine j_iload E 0 rfl dL_law_252 ?_
    refine j_i2l E dL_law_254 ?_
    refine j_lcmp E dL_law_255 ?_
    refine j_if_eq E (tgt := 261) (by decide) dL_law_256 (fun c3 => ?_) (fun c3 => absurd (lgc (e4 c0)) c3)
    refine j_goto E (tgt := 1152) (by decide) dL_law_261 ?_
    refine j_sub [2, 3, 4, 5, 6] (lv' := [(0, .ref b), (1, .ref (ax 0)), (2, .ref (ad 0)), (3, .ref ao), (4, .int (nI (5 * t)))]) rfl ?_
    refine j_widen (k := 80 + 10 * (t + 1)) (n := 8000 + 1800 * (t + 1)) (by omega) (by omega) ?_
    exact hnext _ _ _ _ hR1
set_option maxHeartbeats 4000000 in
set_option maxRecDepth 100000 in
theorem law_c2 {p : Program} {l : Launch} {e : Env} {s : State} {m : MethodId} {below : List Frame} {meth : Method} {c : Code} {D : va_G} {cI cZ cJ : ClassId} {b L : Nat} {xs : Nat → Int32} {Rel : jS → jS → Prop} (hstt : l.stackTraces = false) (hL : L ≤ 2560) (E : jE p s m #[Value.ref b] meth c cL_law 7 RL wsL_law D (jT3 cI cZ cJ) (fun q => s.heap.size ≤ q)) (hxn : xN s) (hxz : xZ (fun q => s.heap.size ≤ q) s s.heap) (hxc : xNc s) (hX : va_X b L xs s s.heap) (hbl : b < s.heap.size) (HR : LawHyp Rel) {t : Nat} (ht : 5 * t + 5 ≤ L) {ax : Nat → Nat} {ao : Nat} (hnext : ∀ (ad : Nat → Nat) (x ms : jS) (out : Nat → Int64), Rel x ms → J p l e room_1 s m #[Value.ref b] below meth c 7 D (fun q => s.heap.size ≤ q) (wL ax ao cI cZ cJ) (lw_Z below #[Value.ref b] s) (80 + 10 * (t + 1)) (8000 + 1800 * (t + 1)) ((x, out), (ad, ms)) 1152 [(0, .ref b), (1, .ref (ax 0)), (2, .ref (ad 0)), (3, .ref ao), (4, .int (nI (5 * t)))] []) {ad : Nat → Nat} {x ms : jS} {out : Nat → Int64} (hR : Rel x ms) : J p l e room_1 s m #[Value.ref b] below meth c 7 D (fun q => s.heap.size ≤ q) (wL ax ao cI cZ cJ) (lw_Z below #[Value.ref b] s) (80 + 10 * t) (8000 + 1800 * t) ((x, out), (ad, ms)) 264 [(0, .ref b), (1, .ref (ax 0)), (2, .ref (ad 0)), (3, .ref ao), (4, .int (nI (5 * t)))] [] := by
  obtain ⟨w1, hw1⟩ : ∃ z, xs (nI (5 * t) + nI 1).toNatClampNeg = z := ⟨_, rfl⟩
  obtain ⟨w2, hw2⟩ : ∃ z, xs (nI (5 * t) + nI 2).toNatClampNeg = z := ⟨_, rfl⟩
  obtain ⟨w3, hw3⟩ : ∃ z, xs (nI (5 * t) + nI 3).toNatClampNeg = z := ⟨_, rfl⟩
  obtain ⟨w4, hw4⟩ : ∃ z, xs (nI (5 * t) + nI 4).toNatClampNeg = z := ⟨_, rfl⟩
  refine j_aload_n E 1 rfl rfl dL_law_264 ?_
  refine j_aload_n E 0 rfl rfl dL_law_265 ?_
  refine j_iload E 4 rfl dL_law_266 ?_
  refine j_iconst E ((by decide : Int32.ofInt (1) = 1)) dL_law_268 ?_
  refine j_iadd E dL_law_269 ?_
  refine j_sld E hX hbl (Nat.not_le.mpr hbl) (jsk (k := 1) (by omega) ht hL) dL_law_270 ?_
  refine j_topi hw1 ?_
  refine j_aload_n E 3 rfl rfl dL_law_271 ?_
  obtain ⟨o1, q1, e1, e2, e3, e4, hR1⟩ := (HR.2.2.1) x ms out (w1) hR
  refine j_callW E hxn hxz hxc (As := [.ref (ax 0), .int w1, .ref ao]) (c_L_rule hstt e1) (vx_cwSW 3 E.1.2.2.2.2 gL_law_L_rule rfl rfl rfl (by decide +kernel) ⟨Nat.le_of_ble_eq_true rfl, Nat.le_of_ble_eq_true rfl⟩) rfl rfl (Nat.le_of_ble_eq_true rfl) ⟨by show 80 + 10 * t + 2 ≤ 601024; omega, by show 8000 + 1800 * t + 12 ≤ 7293034; omega⟩ dL_law_272 ?_
  refine j_st (st' := (o1.2, (ad, ms))) rfl ?_
  refine j_istore E (by decide) (lv' := [(5, .int o1.1), (0, .ref b), (1, .ref (ax 0)), (2, .ref (ad 0)), (3, .ref ao), (4, .int (nI (5 * t)))]) rfl dL_law_275 ?_
  refine j_aload_n E 3 rfl rfl dL_law_277 ?_
  refine j_aload_n E 1 rfl rfl dL_law_278 ?_
  refine j_iload E 5 rfl dL_law_279 ?_
  refine j_iconst E ((by decide : Int32.ofInt (1) = 1)) dL_law_281 ?_
  refine j_iadd E dL_law_282 ?_
  refine j_sld E hX hbl (Nat.not_le.mpr hbl) (jsk (k := 1) (by omega) ht hL) dL_law_283 ?_
  refine j_topi hw1 ?_
  refine j_callMi E (As := [.int w1]) (c_X6_rule e2) (cwV 1 E.1.2.2.2.2 gL_law_X6_rule rfl rfl rfl (by decide +kernel) ⟨Nat.le_of_ble_eq_true rfl, Nat.le_of_ble_eq_true rfl⟩) rfl rfl (Nat.le_of_ble_eq_true rfl) ⟨by show 80 + 10 * t + 2 ≤ 601024; omega, by show 8000 + 1800 * t + 12 ≤ 7293034; omega⟩ dL_law_284 ?_
  refine j_st (st' := (o1.2, (ad, q1.2))) rfl ?_
  refine j_istore E (by decide) (lv' := [(6, .int q1.1), (5, .int o1.1), (0, .ref b), (1, .ref (ax 0)), (2, .ref (ad 0)), (3, .ref ao), (4, .int (nI (5 * t)))]) rfl dL_law_287 ?_
  refine j_aload_n E 4 rfl rfl dL_law_289 ?_
  refine j_callMi E (As := []) (c_X6_thrown (o := (q1.2.2 0, q1.2)) rfl) (cwV 0 E.1.2.2.2.2 gL_law_X6_thrown rfl rfl rfl (by decide +kernel) ⟨Nat.le_of_ble_eq_true rfl, Nat.le_of_ble_eq_true rfl⟩) rfl rfl (Nat.le_of_ble_eq_true rfl) ⟨by show 80 + 10 * t + 2 ≤ 601024; omega, by show 8000 + 1800 * t + 12 ≤ 7293034; omega⟩ dL_law_290 ?_
  refine j_st (st' := (o1.2, (ad, q1.2))) rfl ?_
  refine j_iload E 1 rfl dL_law_293 ?_
  refine j_icmp_eq E (tgt := 300) (by decide) dL_law_295 (fun c1 => ?_) (fun c1 => absurd e3 c1)
  refine j_iload E 1 rfl dL_law_300 ?_
  refine j_if_ne E (tgt := 317) (by decide) dL_law_302 (fun c0 => ?_) (fun c0 => ?_)
  · skip
    refine j_goto E (tgt := 1152) (by decide) dL_law_317 ?_
    refine j_sub [2, 3, 4, 5, 6] (lv' := [(0, .ref b), (1, .ref (ax 0)), (2, .ref (ad 0)), (3, .ref ao), (4, .int (nI (5 * t)))]) rfl ?_
    refine j_widen (k := 80 + 10 * (t + 1)) (n := 8000 + 1800 * (t + 1)) (by omega) (by omega) ?_
    exact hnext _ _ _ _ hR1
  · skip
    refine j_aload_n E 5 rfl rfl dL_law_305 ?_
    refine j_iconst E ((by decide : Int32.ofInt (0) = 0)) dL_law_306 ?_
    refine j_laldL E (job_in (by decide)) dL_law_307 ?_
    refine j_iload E 0 rfl dL_law_308 ?_
    refine j_i2l E dL_law_310 ?_
    refine j_lcmp E dL_law_311 ?_
    refine j_if_eq E (tgt := 317) (by decide) dL_law_312 (fun c3 => ?_) (fun c3 => absurd (lgc (e4 c0)) c3)
    refine j_goto E (tgt := 1152) (by decide) dL_law_317 ?_
    refine j_sub [2, 3, 4, 5, 6] (lv' := [(0, .ref b), (1, .ref (ax 0)), (2, .ref (ad 0)), (3, .ref ao), (4, .int (nI (5 * t)))]) rfl ?_
    refine j_widen (k := 80 + 10 * (t + 1)) (n := 8000 + 1800 * (t + 1)) (by omega) (by omega) ?_
    exact hnext _ _ _ _ hR1
set_option maxHeartbeats 4000000 in
set_option maxRecDepth 100000 in
theorem law_c3 {p : Program} {l : Launch} {e : Env} {s : State} {m : MethodId} {below : List Frame} {meth : Method} {c : Code} {D : va_G} {cI cZ cJ : ClassId} {b L : Nat} {xs : Nat → Int32} {Rel : jS → jS → Prop} (hstt : l.stackTraces = false) (hL : L ≤ 2560) (E : jE p s m #[Value.ref b] meth c cL_law 7 RL wsL_law D (jT3 cI cZ cJ) (fun q => s.heap.size ≤ q)) (hxn : xN s) (hxz : xZ (fun q => s.heap.size ≤ q) s s.heap) (hxc : xNc s) (hX : va_X b L xs s s.heap) (hbl : b < s.heap.size) (HR : LawHyp Rel) {t : Nat} (ht : 5 * t + 5 ≤ L) {ax : Nat → Nat} {ao : Nat} (hnext : ∀ (ad : Nat → Nat) (x ms : jS) (out : Nat → Int64), Rel x ms → J p l e room_1 s m #[Value.ref b] below meth c 7 D (fun q => s.heap.size ≤ q) (wL ax ao cI cZ cJ) (lw_Z below #[Value.ref b] s) (80 + 10 * (t + 1)) (8000 + 1800 * (t + 1)) ((x, out), (ad, ms)) 1152 [(0, .ref b), (1, .ref (ax 0)), (2, .ref (ad 0)), (3, .ref ao), (4, .int (nI (5 * t)))] []) {ad : Nat → Nat} {x ms : jS} {out : Nat → Int64} (hR : Rel x ms) : J p l e room_1 s m #[Value.ref b] below meth c 7 D (fun q => s.heap.size ≤ q) (wL ax ao cI cZ cJ) (lw_Z below #[Value.ref b] s) (80 + 10 * t) (8000 + 1800 * t) ((x, out), (ad, ms)) 320 [(0, .ref b), (1, .ref (ax 0)), (2, .ref (ad 0)), (3, .ref ao), (4, .int (nI (5 * t)))] [] := by
  obtain ⟨w1, hw1⟩ : ∃ z, xs (nI (5 * t) + nI 1).toNatClampNeg = z := ⟨_, rfl⟩
  obtain ⟨w2, hw2⟩ : ∃ z, xs (nI (5 * t) + nI 2).toNatClampNeg = z := ⟨_, rfl⟩
  obtain ⟨w3, hw3⟩ : ∃ z, xs (nI (5 * t) + nI 3).toNatClampNeg = z := ⟨_, rfl⟩
  obtain ⟨w4, hw4⟩ : ∃ z, xs (nI (5 * t) + nI 4).toNatClampNeg = z := ⟨_, rfl⟩
  refine j_aload_n E 1 rfl rfl dL_law_320 ?_
  refine j_aload_n E 0 rfl rfl dL_law_321 ?_
  refine j_iload E 4 rfl dL_law_322 ?_
  refine j_iconst E ((by decide : Int32.ofInt (1) = 1)) dL_law_324 ?_
  refine j_iadd E dL_law_325 ?_
  refine j_sld E hX hbl (Nat.not_le.mpr hbl) (jsk (k := 1) (by omega) ht hL) dL_law_326 ?_
  refine j_topi hw1 ?_
  refine j_aload_n E 0 rfl rfl dL_law_327 ?_
  refine j_iload E 4 rfl dL_law_328 ?_
  refine j_iconst E ((by decide : Int32.ofInt (2) = 2)) dL_law_330 ?_
  refine j_iadd E dL_law_331 ?_
  refine j_sld E hX hbl (Nat.not_le.mpr hbl) (jsk (k := 2) (by omega) ht hL) dL_law_332 ?_
  refine j_topi hw2 ?_
  refine j_aload_n E 0 rfl rfl dL_law_333 ?_
  refine j_iload E 4 rfl dL_law_334 ?_
  refine j_iconst E ((by decide : Int32.ofInt (3) = 3)) dL_law_336 ?_
  refine j_iadd E dL_law_337 ?_
  refine j_sld E hX hbl (Nat.not_le.mpr hbl) (jsk (k := 3) (by omega) ht hL) dL_law_338 ?_
  refine j_topi hw3 ?_
  refine j_aload_n E 3 rfl rfl dL_law_339 ?_
  obtain ⟨o1, q1, e1, e2, e3, e4, hR1⟩ := (HR.2.2.2.1) x ms out (w1) (w2) (w3) hR
  refine j_callW E hxn hxz hxc (As := [.ref (ax 0), .int w1, .int w2, .int w3, .ref ao]) (c_L_join hstt e1) (vx_cwSW 5 E.1.2.2.2.2 gL_law_L_join rfl rfl rfl (by decide +kernel) ⟨Nat.le_of_ble_eq_true rfl, Nat.le_of_ble_eq_true rfl⟩) rfl rfl (Nat.le_of_ble_eq_true rfl) ⟨by show 80 + 10 * t + 3 ≤ 601024; omega, by show 8000 + 1800 * t + 18 ≤ 7293034; omega⟩ dL_law_340 ?_
  refine j_st (st' := (o1.2, (ad, ms))) rfl ?_
  refine j_istore E (by decide) (lv' := [(5, .int o1.1), (0, .ref b), (1, .ref (ax 0)), (2, .ref (ad 0)), (3, .ref ao), (4, .int (nI (5 * t)))]) rfl dL_law_343 ?_
  refine j_aload_n E 3 rfl rfl dL_law_345 ?_
  refine j_aload_n E 1 rfl rfl dL_law_346 ?_
  refine j_iload E 5 rfl dL_law_347 ?_
  refine j_iconst E ((by decide : Int32.ofInt (1) = 1)) dL_law_349 ?_
  refine j_iadd E dL_law_350 ?_
  refine j_sld E hX hbl (Nat.not_le.mpr hbl) (jsk (k := 1) (by omega) ht hL) dL_law_351 ?_
  refine j_topi hw1 ?_
  refine j_aload_n E 1 rfl rfl dL_law_352 ?_
  refine j_iload E 5 rfl dL_law_353 ?_
  refine j_iconst E ((by decide : Int32.ofInt (2) = 2)) dL_law_355 ?_
  refine j_iadd E dL_law_356 ?_
  refine j_sld E hX hbl (Nat.not_le.mpr hbl) (jsk (k := 2) (by omega) ht hL) dL_law_357 ?_
  refine j_topi hw2 ?_
  refine j_aload_n E 1 rfl rfl dL_law_358 ?_
  refine j_iload E 5 rfl dL_law_359 ?_
  refine j_iconst E ((by decide : Int32.ofInt (3) = 3)) dL_law_361 ?_
  refine j_iadd E dL_law_362 ?_
  refine j_sld E hX hbl (Nat.not_le.mpr hbl) (jsk (k := 3) (by omega) ht hL) dL_law_363 ?_
  refine j_topi hw3 ?_
  refine j_callMi E (As := [.int w1, .int w2, .int w3]) (c_X6_join e2) (cwV 3 E.1.2.2.2.2 gL_law_X6_join rfl rfl rfl (by decide +kernel) ⟨Nat.le_of_ble_eq_true rfl, Nat.le_of_ble_eq_true rfl⟩) rfl rfl (Nat.le_of_ble_eq_true rfl) ⟨by show 80 + 10 * t + 3 ≤ 601024; omega, by show 8000 + 1800 * t + 18 ≤ 7293034; omega⟩ dL_law_364 ?_
  refine j_st (st' := (o1.2, (ad, q1.2))) rfl ?_
  refine j_istore E (by decide) (lv' := [(6, .int q1.1), (5, .int o1.1), (0, .ref b), (1, .ref (ax 0)), (2, .ref (ad 0)), (3, .ref ao), (4, .int (nI (5 * t)))]) rfl dL_law_367 ?_
  refine j_aload_n E 4 rfl rfl dL_law_369 ?_
  refine j_callMi E (As := []) (c_X6_thrown (o := (q1.2.2 0, q1.2)) rfl) (cwV 0 E.1.2.2.2.2 gL_law_X6_thrown rfl rfl rfl (by decide +kernel) ⟨Nat.le_of_ble_eq_true rfl, Nat.le_of_ble_eq_true rfl⟩) rfl rfl (Nat.le_of_ble_eq_true rfl) ⟨by show 80 + 10 * t + 3 ≤ 601024; omega, by show 8000 + 1800 * t + 18 ≤ 7293034; omega⟩ dL_law_370 ?_
  refine j_st (st' := (o1.2, (ad, q1.2))) rfl ?_
  refine j_iload E 1 rfl dL_law_373 ?_
  refine j_icmp_eq E (tgt := 380) (by decide) dL_law_375 (fun c1 => ?_) (fun c1 => absurd e3 c1)
  refine j_iload E 1 rfl dL_law_380 ?_
  refine j_if_ne E (tgt := 397) (by decide) dL_law_382 (fun c0 => ?_) (fun c0 => ?_)
  · skip
    refine j_goto E (tgt := 1152) (by decide) dL_law_397 ?_
    refine j_sub [2, 3, 4, 5, 6] (lv' := [(0, .ref b), (1, .ref (ax 0)), (2, .ref (ad 0)), (3, .ref ao), (4, .int (nI (5 * t)))]) rfl ?_
    refine j_widen (k := 80 + 10 * (t + 1)) (n := 8000 + 1800 * (t + 1)) (by omega) (by omega) ?_
    exact hnext _ _ _ _ hR1
  · skip
    refine j_aload_n E 5 rfl rfl dL_law_385 ?_
    refine j_iconst E ((by decide : Int32.ofInt (0) = 0)) dL_law_386 ?_
    refine j_laldL E (job_in (by decide)) dL_law_387 ?_
    refine j_iload E 0 rfl dL_law_388 ?_
    refine j_i2l E dL_law_390 ?_
    refine j_lcmp E dL_law_391 ?_
    refine j_if_eq E (tgt := 397) (by decide) dL_law_392 (fun c3 => ?_) (fun c3 => absurd (lgc (e4 c0)) c3)
    refine j_goto E (tgt := 1152) (by decide) dL_law_397 ?_
    refine j_sub [2, 3, 4, 5, 6] (lv' := [(0, .ref b), (1, .ref (ax 0)), (2, .ref (ad 0)), (3, .ref ao), (4, .int (nI (5 * t)))]) rfl ?_
    refine j_widen (k := 80 + 10 * (t + 1)) (n := 8000 + 1800 * (t + 1)) (by omega) (by omega) ?_
    exact hnext _ _ _ _ hR1
set_option maxHeartbeats 4000000 in
set_option maxRecDepth 100000 in
theorem law_c4 {p : Program} {l : Launch} {e : Env} {s : State} {m : MethodId} {below : List Frame} {meth : Method} {c : Code} {D : va_G} {cI cZ cJ : ClassId} {b L : Nat} {xs : Nat → Int32} {Rel : jS → jS → Prop} (hstt : l.stackTraces = false) (hL : L ≤ 2560) (E : jE p s m #[Value.ref b] meth c cL_law 7 RL wsL_law D (jT3 cI cZ cJ) (fun q => s.heap.size ≤ q)) (hxn : xN s) (hxz : xZ (fun q => s.heap.size ≤ q) s s.heap) (hxc : xNc s) (hX : va_X b L xs s s.heap) (hbl : b < s.heap.size) (HR : LawHyp Rel) {t : Nat} (ht : 5 * t + 5 ≤ L) {ax : Nat → Nat} {ao : Nat} (hnext : ∀ (ad : Nat → Nat) (x ms : jS) (out : Nat → Int64), Rel x ms → J p l e room_1 s m #[Value.ref b] below meth c 7 D (fun q => s.heap.size ≤ q) (wL ax ao cI cZ cJ) (lw_Z below #[Value.ref b] s) (80 + 10 * (t + 1)) (8000 + 1800 * (t + 1)) ((x, out), (ad, ms)) 1152 [(0, .ref b), (1, .ref (ax 0)), (2, .ref (ad 0)), (3, .ref ao), (4, .int (nI (5 * t)))] []) {ad : Nat → Nat} {x ms : jS} {out : Nat → Int64} (hR : Rel x ms) : J p l e room_1 s m #[Value.ref b] below meth c 7 D (fun q => s.heap.size ≤ q) (wL ax ao cI cZ cJ) (lw_Z below #[Value.ref b] s) (80 + 10 * t) (8000 + 1800 * t) ((x, out), (ad, ms)) 400 [(0, .ref b), (1, .ref (ax 0)), (2, .ref (ad 0)), (3, .ref ao), (4, .int (nI (5 * t)))] [] := by
  obtain ⟨w1, hw1⟩ : ∃ z, xs (nI (5 * t) + nI 1).toNatClampNeg = z := ⟨_, rfl⟩
  obtain ⟨w2, hw2⟩ : ∃ z, xs (nI (5 * t) + nI 2).toNatClampNeg = z := ⟨_, rfl⟩
  obtain ⟨w3, hw3⟩ : ∃ z, xs (nI (5 * t) + nI 3).toNatClampNeg = z := ⟨_, rfl⟩
  obtain ⟨w4, hw4⟩ : ∃ z, xs (nI (5 * t) + nI 4).toNatClampNeg = z := ⟨_, rfl⟩
  refine j_aload_n E 1 rfl rfl dL_law_400 ?_
  refine j_aload_n E 0 rfl rfl dL_law_401 ?_
  refine j_iload E 4 rfl dL_law_402 ?_
  refine j_iconst E ((by decide : Int32.ofInt (1) = 1)) dL_law_404 ?_
  refine j_iadd E dL_law_405 ?_
  refine j_sld E hX hbl (Nat.not_le.mpr hbl) (jsk (k := 1) (by omega) ht hL) dL_law_406 ?_
  refine j_topi hw1 ?_
  refine j_aload_n E 0 rfl rfl dL_law_407 ?_
  refine j_iload E 4 rfl dL_law_408 ?_
  refine j_iconst E ((by decide : Int32.ofInt (2) = 2)) dL_law_410 ?_
  refine j_iadd E dL_law_411 ?_
  refine j_sld E hX hbl (Nat.not_le.mpr hbl) (jsk (k := 2) (by omega) ht hL) dL_law_412 ?_
  refine j_topi hw2 ?_
  refine j_aload_n E 3 rfl rfl dL_law_413 ?_
  obtain ⟨o1, q1, e1, e2, e3, e4, hR1⟩ := (HR.2.2.2.2.1) x ms out (w1) (w2) hR
  refine j_callW E hxn hxz hxc (As := [.ref (ax 0), .int w1, .int w2, .ref ao]) (c_L_wrap hstt e1) (vx_cwSW 4 E.1.2.2.2.2 gL_law_L_wrap rfl rfl rfl (by decide +kernel) ⟨Nat.le_of_ble_eq_true rfl, Nat.le_of_ble_eq_true rfl⟩) rfl rfl (Nat.le_of_ble_eq_true rfl) ⟨by show 80 + 10 * t + 2 ≤ 601024; omega, by show 8000 + 1800 * t + 12 ≤ 7293034; omega⟩ dL_law_414 ?_
  refine j_st (st' := (o1.2, (ad, ms))) rfl ?_
  refine j_istore E (by decide) (lv' := [(5, .int o1.1), (0, .ref b), (1, .ref (ax 0)), (2, .ref (ad 0)), (3, .ref ao), (4, .int (nI (5 * t)))]) rfl dL_law_417 ?_
  refine j_aload_n E 3 rfl rfl dL_law_419 ?_
  refine j_aload_n E 1 rfl rfl dL_law_420 ?_
  refine j_iload E 5 rfl dL_law_421 ?_
  refine j_iconst E ((by decide : Int32.ofInt (1) = 1)) dL_law_423 ?_
  refine j_iadd E dL_law_424 ?_
  refine j_sld E hX hbl (Nat.not_le.mpr hbl) (jsk (k := 1) (by omega) ht hL) dL_law_425 ?_
  refine j_topi hw1 ?_
  refine j_aload_n E 1 rfl rfl dL_law_426 ?_
  refine j_iload E 5 rfl dL_law_427 ?_
  refine j_iconst E ((by decide : Int32.ofInt (2) = 2)) dL_law_429 ?_
  refine j_iadd E dL_law_430 ?_
  refine j_sld E hX hbl (Nat.not_le.mpr hbl) (jsk (k := 2) (by omega) ht hL) dL_law_431 ?_
  refine j_topi hw2 ?_
  refine j_callMi E (As := [.int w1, .int w2]) (c_X6_wrap e2) (cwV 2 E.1.2.2.2.2 gL_law_X6_wrap rfl rfl rfl (by decide +kernel) ⟨Nat.le_of_ble_eq_true rfl, Nat.le_of_ble_eq_true rfl⟩) rfl rfl (Nat.le_of_ble_eq_true rfl) ⟨by show 80 + 10 * t + 2 ≤ 601024; omega, by show 8000 + 1800 * t + 12 ≤ 7293034; omega⟩ dL_law_432 ?_
  refine j_st (st' := (o1.2, (ad, q1.2))) rfl ?_
  refine j_istore E (by decide) (lv' := [(6, .int q1.1), (5, .int o1.1), (0, .ref b), (1, .ref (ax 0)), (2, .ref (ad 0)), (3, .ref ao), (4, .int (nI (5 * t)))]) rfl dL_law_435 ?_
  refine j_aload_n E 4 rfl rfl dL_law_437 ?_
  refine j_callMi E (As := []) (c_X6_thrown (o := (q1.2.2 0, q1.2)) rfl) (cwV 0 E.1.2.2.2.2 gL_law_X6_thrown rfl rfl rfl (by decide +kernel) ⟨Nat.le_of_ble_eq_true rfl, Nat.le_of_ble_eq_true rfl⟩) rfl rfl (Nat.le_of_ble_eq_true rfl) ⟨by show 80 + 10 * t + 2 ≤ 601024; omega, by show 8000 + 1800 * t + 12 ≤ 7293034; omega⟩ dL_law_438 ?_
  refine j_st (st' := (o1.2, (ad, q1.2))) rfl ?_
  refine j_iload E 1 rfl dL_law_441 ?_
  refine j_icmp_eq E (tgt := 448) (by decide) dL_law_443 (fun c1 => ?_) (fun c1 => absurd e3 c1)
  refine j_iload E 1 rfl dL_law_448 ?_
  refine j_if_ne E (tgt := 465) (by decide) dL_law_450 (fun c0 => ?_) (fun c0 => ?_)
  · skip
    refine j_goto E (tgt := 1152) (by decide) dL_law_465 ?_
    refine j_sub [2, 3, 4, 5, 6] (lv' := [(0, .ref b), (1, .ref (ax 0)), (2, .ref (ad 0)), (3, .ref ao), (4, .int (nI (5 * t)))]) rfl ?_
    refine j_widen (k := 80 + 10 * (t + 1)) (n := 8000 + 1800 * (t + 1)) (by omega) (by omega) ?_
    exact hnext _ _ _ _ hR1
  · skip
    refine j_aload_n E 5 rfl rfl dL_law_453 ?_
    refine j_iconst E ((by decide : Int32.ofInt (0) = 0)) dL_law_454 ?_
    refine j_laldL E (job_in (by decide)) dL_law_455 ?_
    refine j_iload E 0 rfl dL_law_456 ?_
    refine j_i2l E dL_law_458 ?_
    refine j_lcmp E dL_law_459 ?_
    refine j_if_eq E (tgt := 465) (by decide) dL_law_460 (fun c3 => ?_) (fun c3 => absurd (lgc (e4 c0)) c3)
    refine j_goto E (tgt := 1152) (by decide) dL_law_465 ?_
    refine j_sub [2, 3, 4, 5, 6] (lv' := [(0, .ref b), (1, .ref (ax 0)), (2, .ref (ad 0)), (3, .ref ao), (4, .int (nI (5 * t)))]) rfl ?_
    refine j_widen (k := 80 + 10 * (t + 1)) (n := 8000 + 1800 * (t + 1)) (by omega) (by omega) ?_
    exact hnext _ _ _ _ hR1
set_option maxHeartbeats 4000000 in
set_option maxRecDepth 100000 in
theorem law_c5 {p : Program} {l : Launch} {e : Env} {s : State} {m : MethodId} {below : List Frame} {meth : Method} {c : Code} {D : va_G} {cI cZ cJ : ClassId} {b L : Nat} {xs : Nat → Int32} {Rel : jS → jS → Prop} (hstt : l.stackTraces = false) (hL : L ≤ 2560) (E : jE p s m #[Value.ref b] meth c cL_law 7 RL wsL_law D (jT3 cI cZ cJ) (fun q => s.heap.size ≤ q)) (hxn : xN s) (hxz : xZ (fun q => s.heap.size ≤ q) s s.heap) (hxc : xNc s) (hX : va_X b L xs s s.heap) (hbl : b < s.heap.size) (HR : LawHyp Rel) {t : Nat} (ht : 5 * t + 5 ≤ L) {ax : Nat → Nat} {ao : Nat} (hnext : ∀ (ad : Nat → Nat) (x ms : jS) (out : Nat → Int64), Rel x ms → J p l e room_1 s m #[Value.ref b] below meth c 7 D (fun q => s.heap.size ≤ q) (wL ax ao cI cZ cJ) (lw_Z below #[Value.ref b] s) (80 + 10 * (t + 1)) (8000 + 1800 * (t + 1)) ((x, out), (ad, ms)) 1152 [(0, .ref b), (1, .ref (ax 0)), (2, .ref (ad 0)), (3, .ref ao), (4, .int (nI (5 * t)))] []) {ad : Nat → Nat} {x ms : jS} {out : Nat → Int64} (hR : Rel x ms) : J p l e room_1 s m #[Value.ref b] below meth c 7 D (fun q => s.heap.size ≤ q) (wL ax ao cI cZ cJ) (lw_Z below #[Value.ref b] s) (80 + 10 * t) (8000 + 1800 * t) ((x, out), (ad, ms)) 468 [(0, .ref b), (1, .ref (ax 0)), (2, .ref (ad 0)), (3, .ref ao), (4, .int (nI (5 * t)))] [] := by
  obtain ⟨w1, hw1⟩ : ∃ z, xs (nI (5 * t) + nI 1).toNatClampNeg = z := ⟨_, rfl⟩
  obtain ⟨w2, hw2⟩ : ∃ z, xs (nI (5 * t) + nI 2).toNatClampNeg = z := ⟨_, rfl⟩
  obtain ⟨w3, hw3⟩ : ∃ z, xs (nI (5 * t) + nI 3).toNatClampNeg = z := ⟨_, rfl⟩
  obtain ⟨w4, hw4⟩ : ∃ z, xs (nI (5 * t) + nI 4).toNatClampNeg = z := ⟨_, rfl⟩
  refine j_aload_n E 1 rfl rfl dL_law_468 ?_
  refine j_aload_n E 0 rfl rfl dL_law_469 ?_
  refine j_iload E 4 rfl dL_law_470 ?_
  refine j_iconst E ((by decide : Int32.ofInt (1) = 1)) dL_law_472 ?_
  refine j_iadd E dL_law_473 ?_
  refine j_sld E hX hbl (Nat.not_le.mpr hbl) (jsk (k := 1) (by omega) ht hL) dL_law_474 ?_
  refine j_topi hw1 ?_
  refine j_aload_n E 0 rfl rfl dL_law_475 ?_
  refine j_iload E 4 rfl dL_law_476 ?_
  refine j_iconst E ((by decide : Int32.ofInt (2) = 2)) dL_law_478 ?_
  refine j_iadd E dL_law_479 ?_
  refine j_sld E hX hbl (Nat.not_le.mpr hbl) (jsk (k := 2) (by omega) ht hL) dL_law_480 ?_
  refine j_topi hw2 ?_
  refine j_aload_n E 3 rfl rfl dL_law_481 ?_
  obtain ⟨o1, q1, e1, e2, e3, e4, hR1⟩ := (HR.2.2.2.2.2.1) x ms out (w1) (w2) hR
  refine j_callW E hxn hxz hxc (As := [.ref (ax 0), .int w1, .int w2, .ref ao]) (c_L_define hstt e1) (vx_cwSW 4 E.1.2.2.2.2 gL_law_L_define rfl rfl rfl (by decide +kernel) ⟨Nat.le_of_ble_eq_true rfl, Nat.le_of_ble_eq_true rfl⟩) rfl rfl (Nat.le_of_ble_eq_true rfl) ⟨by show 80 + 10 * t + 2 ≤ 601024; omega, by show 8000 + 1800 * t + 12 ≤ 7293034; omega⟩ dL_law_482 ?_
  refine j_st (st' := (o1.2, (ad, ms))) rfl ?_
  refine j_istore E (by decide) (lv' := [(5, .int o1.1), (0, .ref b), (1, .ref (ax 0)), (2, .ref (ad 0)), (3, .ref ao), (4, .int (nI (5 * t)))]) rfl dL_law_485 ?_
  refine j_aload_n E 3 rfl rfl dL_law_487 ?_
  refine j_aload_n E 1 rfl rfl dL_law_488 ?_
  refine j_iload E 5 rfl dL_law_489 ?_
  refine j_iconst E ((by decide : Int32.ofInt (1) = 1)) dL_law_491 ?_
  refine j_iadd E dL_law_492 ?_
  refine j_sld E hX hbl (Nat.not_le.mpr hbl) (jsk (k := 1) (by omega) ht hL) dL_law_493 ?_
  refine j_topi hw1 ?_
  refine j_aload_n E 1 rfl rfl dL_law_494 ?_
  refine j_iload E 5 rfl dL_law_495 ?_
  refine j_iconst E ((by decide : Int32.ofInt (2) = 2)) dL_law_497 ?_
  refine j_iadd E dL_law_498 ?_
  refine j_sld E hX hbl (Nat.not_le.mpr hbl) (jsk (k := 2) (by omega) ht hL) dL_law_499 ?_
  refine j_topi hw2 ?_
  refine j_callMi E (As := [.int w1, .int w2]) (c_X6_define e2) (cwV 2 E.1.2.2.2.2 gL_law_X6_define rfl rfl rfl (by decide +kernel) ⟨Nat.le_of_ble_eq_true rfl, Nat.le_of_ble_eq_true rfl⟩) rfl rfl (Nat.le_of_ble_eq_true rfl) ⟨by show 80 + 10 * t + 2 ≤ 601024; omega, by show 8000 + 1800 * t + 12 ≤ 7293034; omega⟩ dL_law_500 ?_
  refine j_st (st' := (o1.2, (ad, q1.2))) rfl ?_
  refine j_istore E (by decide) (lv' := [(6, .int q1.1), (5, .int o1.1), (0, .ref b), (1, .ref (ax 0)), (2, .ref (ad 0)), (3, .ref ao), (4, .int (nI (5 * t)))]) rfl dL_law_503 ?_
  refine j_aload_n E 4 rfl rfl dL_law_505 ?_
  refine j_callMi E (As := []) (c_X6_thrown (o := (q1.2.2 0, q1.2)) rfl) (cwV 0 E.1.2.2.2.2 gL_law_X6_thrown rfl rfl rfl (by decide +kernel) ⟨Nat.le_of_ble_eq_true rfl, Nat.le_of_ble_eq_true rfl⟩) rfl rfl (Nat.le_of_ble_eq_true rfl) ⟨by show 80 + 10 * t + 2 ≤ 601024; omega, by show 8000 + 1800 * t + 12 ≤ 7293034; omega⟩ dL_law_506 ?_
  refine j_st (st' := (o1.2, (ad, q1.2))) rfl ?_
  refine j_iload E 1 rfl dL_law_509 ?_
  refine j_icmp_eq E (tgt := 516) (by decide) dL_law_511 (fun c1 => ?_) (fun c1 => absurd e3 c1)
  refine j_iload E 1 rfl dL_law_516 ?_
  refine j_if_ne E (tgt := 533) (by decide) dL_law_518 (fun c0 => ?_) (fun c0 => ?_)
  · skip
    refine j_goto E (tgt := 1152) (by decide) dL_law_533 ?_
    refine j_sub [2, 3, 4, 5, 6] (lv' := [(0, .ref b), (1, .ref (ax 0)), (2, .ref (ad 0)), (3, .ref ao), (4, .int (nI (5 * t)))]) rfl ?_
    refine j_widen (k := 80 + 10 * (t + 1)) (n := 8000 + 1800 * (t + 1)) (by omega) (by omega) ?_
    exact hnext _ _ _ _ hR1
  · skip
    refine j_aload_n E 5 rfl rfl dL_law_521 ?_
    refine j_iconst E ((by decide : Int32.ofInt (0) = 0)) dL_law_522 ?_
    refine j_laldL E (job_in (by decide)) dL_law_523 ?_
    refine j_iload E 0 rfl dL_law_524 ?_
    refine j_i2l E dL_law_526 ?_
    refine j_lcmp E dL_law_527 ?_
    refine j_if_eq E (tgt := 533) (by decide) dL_law_528 (fun c3 => ?_) (fun c3 => absurd (lgc (e4 c0)) c3)
    refine j_goto E (tgt := 1152) (by decide) dL_law_533 ?_
    refine j_sub [2, 3, 4, 5, 6] (lv' := [(0, .ref b), (1, .ref (ax 0)), (2, .ref (ad 0)), (3, .ref ao), (4, .int (nI (5 * t)))]) rfl ?_
    refine j_widen (k := 80 + 10 * (t + 1)) (n := 8000 + 1800 * (t + 1)) (by omega) (by omega) ?_
    exact hnext _ _ _ _ hR1
set_option maxHeartbeats 4000000 in
set_option maxRecDepth 100000 in
theorem law_c6 {p : Program} {l : Launch} {e : Env} {s : State} {m : MethodId} {below : List Frame} {meth : Method} {c : Code} {D : va_G} {cI cZ cJ : ClassId} {b L : Nat} {xs : Nat → Int32} {Rel : jS → jS → Prop} (hstt : l.stackTraces = false) (hL : L ≤ 2560) (E : jE p s m #[Value.ref b] meth c cL_law 7 RL wsL_law D (jT3 cI cZ cJ) (fun q => s.heap.size ≤ q)) (hxn : xN s) (hxz : xZ (fun q => s.heap.size ≤ q) s s.heap) (hxc : xNc s) (hX : va_X b L xs s s.heap) (hbl : b < s.heap.size) (HR : LawHyp Rel) {t : Nat} (ht : 5 * t + 5 ≤ L) {ax : Nat → Nat} {ao : Nat} (hnext : ∀ (ad : Nat → Nat) (x ms : jS) (out : Nat → Int64), Rel x ms → J p l e room_1 s m #[Value.ref b] below meth c 7 D (fun q => s.heap.size ≤ q) (wL ax ao cI cZ cJ) (lw_Z below #[Value.ref b] s) (80 + 10 * (t + 1)) (8000 + 1800 * (t + 1)) ((x, out), (ad, ms)) 1152 [(0, .ref b), (1, .ref (ax 0)), (2, .ref (ad 0)), (3, .ref ao), (4, .int (nI (5 * t)))] []) {ad : Nat → Nat} {x ms : jS} {out : Nat → Int64} (hR : Rel x ms) : J p l e room_1 s m #[Value.ref b] below meth c 7 D (fun q => s.heap.size ≤ q) (wL ax ao cI cZ cJ) (lw_Z below #[Value.ref b] s) (80 + 10 * t) (8000 + 1800 * t) ((x, out), (ad, ms)) 536 [(0, .ref b), (1, .ref (ax 0)), (2, .ref (ad 0)), (3, .ref ao), (4, .int (nI (5 * t)))] [] := by
  obtain ⟨w1, hw1⟩ : ∃ z, xs (nI (5 * t) + nI 1).toNatClampNeg = z := ⟨_, rfl⟩
  obtain ⟨w2, hw2⟩ : ∃ z, xs (nI (5 * t) + nI 2).toNatClampNeg = z := ⟨_, rfl⟩
  obtain ⟨w3, hw3⟩ : ∃ z, xs (nI (5 * t) + nI 3).toNatClampNeg = z := ⟨_, rfl⟩
  obtain ⟨w4, hw4⟩ : ∃ z, xs (nI (5 * t) + nI 4).toNatClampNeg = z := ⟨_, rfl⟩
  refine j_aload_n E 1 rfl rfl dL_law_536 ?_
  obtain ⟨o1, q1, e1, e2, e3, hR1⟩ := (HR.2.2.2.2.2.2.1) x ms hR
  refine j_callXi E (As := []) (c_X5_expressionCount e1) (cwV 0 E.1.2.2.2.2 gL_law_X5_expressionCount rfl rfl rfl (by decide +kernel) ⟨Nat.le_of_ble_eq_true rfl, Nat.le_of_ble_eq_true rfl⟩) rfl rfl (Nat.le_of_ble_eq_true rfl) ⟨by show 80 + 10 * t + 0 ≤ 601024; omega, by show 8000 + 1800 * t + 0 ≤ 7293034; omega⟩ dL_law_537 ?_
  refine j_st (st' := ((o1.2, out), (ad, ms))) rfl ?_
  refine j_aload_n E 2 rfl rfl dL_law_540 ?_
  refine j_callMi E (As := []) (c_X6_expressionCount e2) (cwV 0 E.1.2.2.2.2 gL_law_X6_expressionCount rfl rfl rfl (by decide +kernel) ⟨Nat.le_of_ble_eq_true rfl, Nat.le_of_ble_eq_true rfl⟩) rfl rfl (Nat.le_of_ble_eq_true rfl) ⟨by show 80 + 10 * t + 0 ≤ 601024; omega, by show 8000 + 1800 * t + 0 ≤ 7293034; omega⟩ dL_law_541 ?_
  refine j_st (st' := ((o1.2, out), (ad, q1.2))) rfl ?_
  refine j_icmp_eq E (tgt := 1152) (by decide) dL_law_544 (fun c1 => ?_) (fun c1 => absurd e3 c1)
  refine j_sub [0, 1, 2, 3, 4] (lv' := [(0, .ref b), (1, .ref (ax 0)), (2, .ref (ad 0)), (3, .ref ao), (4, .int (nI (5 * t)))]) rfl ?_
  refine j_widen (k := 80 + 10 * (t + 1)) (n := 8000 + 1800 * (t + 1)) (by omega) (by omega) ?_
  exact hnext _ _ _ _ hR1
set_option maxHeartbeats 4000000 in
set_option maxRecDepth 100000 in
theorem law_c7 {p : Program} {l : Launch} {e : Env} {s : State} {m : MethodId} {below : List Frame} {meth : Method} {c : Code} {D : va_G} {cI cZ cJ : ClassId} {b L : Nat} {xs : Nat → Int32} {Rel : jS → jS → Prop} (hstt : l.stackTraces = false) (hL : L ≤ 2560) (E : jE p s m #[Value.ref b] meth c cL_law 7 RL wsL_law D (jT3 cI cZ cJ) (fun q => s.heap.size ≤ q)) (hxn : xN s) (hxz : xZ (fun q => s.heap.size ≤ q) s s.heap) (hxc : xNc s) (hX : va_X b L xs s s.heap) (hbl : b < s.heap.size) (HR : LawHyp Rel) {t : Nat} (ht : 5 * t + 5 ≤ L) {ax : Nat → Nat} {ao : Nat} (hnext : ∀ (ad : Nat → Nat) (x ms : jS) (out : Nat → Int64), Rel x ms → J p l e room_1 s m #[Value.ref b] below meth c 7 D (fun q => s.heap.size ≤ q) (wL ax ao cI cZ cJ) (lw_Z below #[Value.ref b] s) (80 + 10 * (t + 1)) (8000 + 1800 * (t + 1)) ((x, out), (ad, ms)) 1152 [(0, .ref b), (1, .ref (ax 0)), (2, .ref (ad 0)), (3, .ref ao), (4, .int (nI (5 * t)))] []) {ad : Nat → Nat} {x ms : jS} {out : Nat → Int64} (hR : Rel x ms) : J p l e room_1 s m #[Value.ref b] below meth c 7 D (fun q => s.heap.size ≤ q) (wL ax ao cI cZ cJ) (lw_Z below #[Value.ref b] s) (80 + 10 * t) (8000 + 1800 * t) ((x, out), (ad, ms)) 549 [(0, .ref b), (1, .ref (ax 0)), (2, .ref (ad 0)), (3, .ref ao), (4, .int (nI (5 * t)))] [] := by
  obtain ⟨w1, hw1⟩ : ∃ z, xs (nI (5 * t) + nI 1).toNatClampNeg = z := ⟨_, rfl⟩
  obtain ⟨w2, hw2⟩ : ∃ z, xs (nI (5 * t) + nI 2).toNatClampNeg = z := ⟨_, rfl⟩
  obtain ⟨w3, hw3⟩ : ∃ z, xs (nI (5 * t) + nI 3).toNatClampNeg = z := ⟨_, rfl⟩
  obtain ⟨w4, hw4⟩ : ∃ z, xs (nI (5 * t) + nI 4).toNatClampNeg = z := ⟨_, rfl⟩
  refine j_aload_n E 1 rfl rfl dL_law_549 ?_
  refine j_aload_n E 0 rfl rfl dL_law_550 ?_
  refine j_iload E 4 rfl dL_law_551 ?_
  refine j_iconst E ((by decide : Int32.ofInt (1) = 1)) dL_law_553 ?_
  refine j_iadd E dL_law_554 ?_
  refine j_sld E hX hbl (Nat.not_le.mpr hbl) (jsk (k := 1) (by omega) ht hL) dL_law_555 ?_
  refine j_topi hw1 ?_
  refine j_aload_n E 3 rfl rfl dL_law_556 ?_
  obtain ⟨o1, q1, e1, e2, e3, e4, hR1⟩ := (HR.2.2.2.2.2.2.2.1) x ms out (w1) hR
  refine j_callW E hxn hxz hxc (As := [.ref (ax 0), .int w1, .ref ao]) (c_L_canBeEmpty hstt e1) (vx_cwSW 3 E.1.2.2.2.2 gL_law_L_canBeEmpty rfl rfl rfl (by decide +kernel) ⟨Nat.le_of_ble_eq_true rfl, Nat.le_of_ble_eq_true rfl⟩) rfl rfl (Nat.le_of_ble_eq_true rfl) ⟨by show 80 + 10 * t + 1 ≤ 601024; omega, by show 8000 + 1800 * t + 6 ≤ 7293034; omega⟩ dL_law_557 ?_
  refine j_st (st' := (o1.2, (ad, ms))) rfl ?_
  refine j_istore E (by decide) (lv' := [(5, .int o1.1), (0, .ref b), (1, .ref (ax 0)), (2, .ref (ad 0)), (3, .ref ao), (4, .int (nI (5 * t)))]) rfl dL_law_560 ?_
  refine j_aload_n E 3 rfl rfl dL_law_562 ?_
  refine j_aload_n E 1 rfl rfl dL_law_563 ?_
  refine j_iload E 5 rfl dL_law_564 ?_
  refine j_iconst E ((by decide : Int32.ofInt (1) = 1)) dL_law_566 ?_
  refine j_iadd E dL_law_567 ?_
  refine j_sld E hX hbl (Nat.not_le.mpr hbl) (jsk (k := 1) (by omega) ht hL) dL_law_568 ?_
  refine j_topi hw1 ?_
  refine j_callMi E (As := [.int w1]) (c_X6_canBeEmpty e2) (cwV 1 E.1.2.2.2.2 gL_law_X6_canBeEmpty rfl rfl rfl (by decide +kernel) ⟨Nat.le_of_ble_eq_true rfl, Nat.le_of_ble_eq_true rfl⟩) rfl rfl (Nat.le_of_ble_eq_true rfl) ⟨by show 80 + 10 * t + 1 ≤ 601024; omega, by show 8000 + 1800 * t + 6 ≤ 7293034; omega⟩ dL_law_569 ?_
  refine j_st (st' := (o1.2, (ad, q1.2))) rfl ?_
  refine j_istore E (by decide) (lv' := [(6, .int q1.1), (5, .int o1.1), (0, .ref b), (1, .ref (ax 0)), (2, .ref (ad 0)), (3, .ref ao), (4, .int (nI (5 * t)))]) rfl dL_law_572 ?_
  refine j_aload_n E 4 rfl rfl dL_law_574 ?_
  refine j_callMi E (As := []) (c_X6_thrown (o := (q1.2.2 0, q1.2)) rfl) (cwV 0 E.1.2.2.2.2 gL_law_X6_thrown rfl rfl rfl (by decide +kernel) ⟨Nat.le_of_ble_eq_true rfl, Nat.le_of_ble_eq_true rfl⟩) rfl rfl (Nat.le_of_ble_eq_true rfl) ⟨by show 80 + 10 * t + 1 ≤ 601024; omega, by show 8000 + 1800 * t + 6 ≤ 7293034; omega⟩ dL_law_575 ?_
  refine j_st (st' := (o1.2, (ad, q1.2))) rfl ?_
  refine j_iload E 1 rfl dL_law_578 ?_
  refine j_icmp_eq E (tgt := 585) (by decide) dL_law_580 (fun c1 => ?_) (fun c1 => absurd e3 c1)
  refine j_iload E 1 rfl dL_law_585 ?_
  refine j_if_ne E (tgt := 609) (by decide) dL_law_587 (fun c0 => ?_) (fun c0 => ?_)
  · skip
    refine j_goto E (tgt := 1152) (by decide) dL_law_609 ?_
    refine j_sub [2, 3, 4, 5, 6] (lv' := [(0, .ref b), (1, .ref (ax 0)), (2, .ref (ad 0)), (3, .ref ao), (4, .int (nI (5 * t)))]) rfl ?_
    refine j_widen (k := 80 + 10 * (t + 1)) (n := 8000 + 1800 * (t + 1)) (by omega) (by omega) ?_
    exact hnext _ _ _ _ hR1
  · skip
    refine j_aload_n E 5 rfl rfl dL_law_590 ?_
    refine j_iconst E ((by decide : Int32.ofInt (0) = 0)) dL_law_591 ?_
    refine j_laldL E (job_in (by decide)) dL_law_592 ?_
    refine j_iload E 0 rfl dL_law_593 ?_
    refine j_if_eq E (tgt := 602) (by decide) dL_law_595 (fun c2 => ?_) (fun c2 => ?_)
    · skip
      refine j_lconst E (v := 0) (by decide) dL_law_602 ?_
      refine j_lcmp E dL_law_603 ?_
      refine j_if_eq E (tgt := 609) (by decide) dL_law_604 (fun c3 => ?_) (fun c3 => absurd (lgc ((e4 c0).trans (if_pos c2))) c3)
      refine j_goto E (tgt := 1152) (by decide) dL_law_609 ?_
      refine j_sub [2, 3, 4, 5, 6] (lv' := [(0, .ref b), (1, .ref (ax 0)), (2, .ref (ad 0)), (3, .ref ao), (4, .int (nI (5 * t)))]) rfl ?_
      refine j_widen (k := 80 + 10 * (t + 1)) (n := 8000 + 1800 * (t + 1)) (by omega) (by omega) ?_
      exact hnext _ _ _ _ hR1
    · skip
      refine j_lconst E (v := 1) (by decide) dL_law_598 ?_
      refine j_goto E (tgt := 603) (by decide) dL_law_599 ?_
      refine j_lcmp E dL_law_603 ?_
      refine j_if_eq E (tgt := 609) (by decide) dL_law_604 (fun c3 => ?_) (fun c3 => absurd (lgc ((e4 c0).trans (if_neg c2))) c3)
      refine j_goto E (tgt := 1152) (by decide) dL_law_609 ?_
      refine j_sub [2, 3, 4, 5, 6] (lv' := [(0, .ref b), (1, .ref (ax 0)), (2, .ref (ad 0)), (3, .ref ao), (4, .int (nI (5 * t)))]) rfl ?_
      refine j_widen (k := 80 + 10 * (t + 1)) (n := 8000 + 1800 * (t + 1)) (by omega) (by omega) ?_
      exact hnext _ _ _ _ hR1
set_option maxHeartbeats 4000000 in
set_option maxRecDepth 100000 in
theorem law_c8 {p : Program} {l : Launch} {e : Env} {s : State} {m : MethodId} {below : List Frame} {meth : Method} {c : Code} {D : va_G} {cI cZ cJ : ClassId} {b L : Nat} {xs : Nat → Int32} {Rel : jS → jS → Prop} (hstt : l.stackTraces = false) (hL : L ≤ 2560) (E : jE p s m #[Value.ref b] meth c cL_law 7 RL wsL_law D (jT3 cI cZ cJ) (fun q => s.heap.size ≤ q)) (hxn : xN s) (hxz : xZ (fun q => s.heap.size ≤ q) s s.heap) (hxc : xNc s) (hX : va_X b L xs s s.heap) (hbl : b < s.heap.size) (HR : LawHyp Rel) {t : Nat} (ht : 5 * t + 5 ≤ L) {ax : Nat → Nat} {ao : Nat} (hnext : ∀ (ad : Nat → Nat) (x ms : jS) (out : Nat → Int64), Rel x ms → J p l e room_1 s m #[Value.ref b] below meth c 7 D (fun q => s.heap.size ≤ q) (wL ax ao cI cZ cJ) (lw_Z below #[Value.ref b] s) (80 + 10 * (t + 1)) (8000 + 1800 * (t + 1)) ((x, out), (ad, ms)) 1152 [(0, .ref b), (1, .ref (ax 0)), (2, .ref (ad 0)), (3, .ref ao), (4, .int (nI (5 * t)))] []) {ad : Nat → Nat} {x ms : jS} {out : Nat → Int64} (hR : Rel x ms) : J p l e room_1 s m #[Value.ref b] below meth c 7 D (fun q => s.heap.size ≤ q) (wL ax ao cI cZ cJ) (lw_Z below #[Value.ref b] s) (80 + 10 * t) (8000 + 1800 * t) ((x, out), (ad, ms)) 612 [(0, .ref b), (1, .ref (ax 0)), (2, .ref (ad 0)), (3, .ref ao), (4, .int (nI (5 * t)))] [] := by
  obtain ⟨w1, hw1⟩ : ∃ z, xs (nI (5 * t) + nI 1).toNatClampNeg = z := ⟨_, rfl⟩
  obtain ⟨w2, hw2⟩ : ∃ z, xs (nI (5 * t) + nI 2).toNatClampNeg = z := ⟨_, rfl⟩
  obtain ⟨w3, hw3⟩ : ∃ z, xs (nI (5 * t) + nI 3).toNatClampNeg = z := ⟨_, rfl⟩
  obtain ⟨w4, hw4⟩ : ∃ z, xs (nI (5 * t) + nI 4).toNatClampNeg = z := ⟨_, rfl⟩
  refine j_aload_n E 1 rfl rfl dL_law_612 ?_
  refine j_aload_n E 0 rfl rfl dL_law_613 ?_
  refine j_iload E 4 rfl dL_law_614 ?_
  refine j_iconst E ((by decide : Int32.ofInt (1) = 1)) dL_law_616 ?_
  refine j_iadd E dL_law_617 ?_
  refine j_sld E hX hbl (Nat.not_le.mpr hbl) (jsk (k := 1) (by omega) ht hL) dL_law_618 ?_
  refine j_topi hw1 ?_
  refine j_aload_n E 3 rfl rfl dL_law_619 ?_
  obtain ⟨o1, q1, e1, e2, e3, e4, hR1⟩ := (HR.2.2.2.2.2.2.2.2.1) x ms out (w1) hR
  refine j_callW E hxn hxz hxc (As := [.ref (ax 0), .int w1, .ref ao]) (c_L_isLeftRecursive hstt e1) (vx_cwSW 3 E.1.2.2.2.2 gL_law_L_isLeftRecursive rfl rfl rfl (by decide +kernel) ⟨Nat.le_of_ble_eq_true rfl, Nat.le_of_ble_eq_true rfl⟩) rfl rfl (Nat.le_of_ble_eq_true rfl) ⟨by show 80 + 10 * t + 1 ≤ 601024; omega, by show 8000 + 1800 * t + 6 ≤ 7293034; omega⟩ dL_law_620 ?_
  refine j_st (st' := (o1.2, (ad, ms))) rfl ?_
  refine j_istore E (by decide) (lv' := [(5, .int o1.1), (0, .ref b), (1, .ref (ax 0)), (2, .ref (ad 0)), (3, .ref ao), (4, .int (nI (5 * t)))]) rfl dL_law_623 ?_
  refine j_aload_n E 3 rfl rfl dL_law_625 ?_
  refine j_aload_n E 1 rfl rfl dL_law_626 ?_
  refine j_iload E 5 rfl dL_law_627 ?_
  refine j_iconst E ((by decide : Int32.ofInt (1) = 1)) dL_law_629 ?_
  refine j_iadd E dL_law_630 ?_
  refine j_sld E hX hbl (Nat.not_le.mpr hbl) (jsk (k := 1) (by omega) ht hL) dL_law_631 ?_
  refine j_topi hw1 ?_
  refine j_callMi E (As := [.int w1]) (c_X6_isLeftRecursive e2) (cwV 1 E.1.2.2.2.2 gL_law_X6_isLeftRecursive rfl rfl rfl (by decide +kernel) ⟨Nat.le_of_ble_eq_true rfl, Nat.le_of_ble_eq_true rfl⟩) rfl rfl (Nat.le_of_ble_eq_true rfl) ⟨by show 80 + 10 * t + 1 ≤ 601024; omega, by show 8000 + 1800 * t + 6 ≤ 7293034; omega⟩ dL_law_632 ?_
  refine j_st (st' := (o1.2, (ad, q1.2))) rfl ?_
  refine j_istore E (by decide) (lv' := [(6, .int q1.1), (5, .int o1.1), (0, .ref b), (1, .ref (ax 0)), (2, .ref (ad 0)), (3, .ref ao), (4, .int (nI (5 * t)))]) rfl dL_law_635 ?_
  refine j_aload_n E 4 rfl rfl dL_law_637 ?_
  refine j_callMi E (As := []) (c_X6_thrown (o := (q1.2.2 0, q1.2)) rfl) (cwV 0 E.1.2.2.2.2 gL_law_X6_thrown rfl rfl rfl (by decide +kernel) ⟨Nat.le_of_ble_eq_true rfl, Nat.le_of_ble_eq_true rfl⟩) rfl rfl (Nat.le_of_ble_eq_true rfl) ⟨by show 80 + 10 * t + 1 ≤ 601024; omega, by show 8000 + 1800 * t + 6 ≤ 7293034; omega⟩ dL_law_638 ?_
  refine j_st (st' := (o1.2, (ad, q1.2))) rfl ?_
  refine j_iload E 1 rfl dL_law_641 ?_
  refine j_icmp_eq E (tgt := 648) (by decide) dL_law_643 (fun c1 => ?_) (fun c1 => absurd e3 c1)
  refine j_iload E 1 rfl dL_law_648 ?_
  refine j_if_ne E (tgt := 672) (by decide) dL_law_650 (fun c0 => ?_) (fun c0 => ?_)
  · skip
    refine j_goto E (tgt := 1152) (by decide) dL_law_672 ?_
    refine j_sub [2, 3, 4, 5, 6] (lv' := [(0, .ref b), (1, .ref (ax 0)), (2, .ref (ad 0)), (3, .ref ao), (4, .int (nI (5 * t)))]) rfl ?_
    refine j_widen (k := 80 + 10 * (t + 1)) (n := 8000 + 1800 * (t + 1)) (by omega) (by omega) ?_
    exact hnext _ _ _ _ hR1
  · skip
    refine j_aload_n E 5 rfl rfl dL_law_653 ?_
    refine j_iconst E ((by decide : Int32.ofInt (0) = 0)) dL_law_654 ?_
    refine j_laldL E (job_in (by decide)) dL_law_655 ?_
    refine j_iload E 0 rfl dL_law_656 ?_
    refine j_if_eq E (tgt := 665) (by decide) dL_law_658 (fun c2 => ?_) (fun c2 => ?_)
    · skip
      refine j_lconst E (v := 0) (by decide) dL_law_665 ?_
      refine j_lcmp E dL_law_666 ?_
      refine j_if_eq E (tgt := 672) (by decide) dL_law_667 (fun c3 => ?_) (fun c3 => absurd (lgc ((e4 c0).trans (if_pos c2))) c3)
      refine j_goto E (tgt := 1152) (by decide) dL_law_672 ?_
      refine j_sub [2, 3, 4, 5, 6] (lv' := [(0, .ref b), (1, .ref (ax 0)), (2, .ref (ad 0)), (3, .ref ao), (4, .int (nI (5 * t)))]) rfl ?_
      refine j_widen (k := 80 + 10 * (t + 1)) (n := 8000 + 1800 * (t + 1)) (by omega) (by omega) ?_
      exact hnext _ _ _ _ hR1
    · skip
      refine j_lconst E (v := 1) (by decide) dL_law_661 ?_
      refine j_goto E (tgt := 666) (by decide) dL_law_662 ?_
      refine j_lcmp E dL_law_666 ?_
      refine j_if_eq E (tgt := 672) (by decide) dL_law_667 (fun c3 => ?_) (fun c3 => absurd (lgc ((e4 c0).trans (if_neg c2))) c3)
      refine j_goto E (tgt := 1152) (by decide) dL_law_672 ?_
      refine j_sub [2, 3, 4, 5, 6] (lv' := [(0, .ref b), (1, .ref (ax 0)), (2, .ref (ad 0)), (3, .ref ao), (4, .int (nI (5 * t)))]) rfl ?_
      refine j_widen (k := 80 + 10 * (t + 1)) (n := 8000 + 1800 * (t + 1)) (by omega) (by omega) ?_
      exact hnext _ _ _ _ hR1
set_option maxHeartbeats 4000000 in
set_option maxRecDepth 100000 in
theorem law_c9 {p : Program} {l : Launch} {e : Env} {s : State} {m : MethodId} {below : List Frame} {meth : Method} {c : Code} {D : va_G} {cI cZ cJ : ClassId} {b L : Nat} {xs : Nat → Int32} {Rel : jS → jS → Prop} (hstt : l.stackTraces = false) (hL : L ≤ 2560) (E : jE p s m #[Value.ref b] meth c cL_law 7 RL wsL_law D (jT3 cI cZ cJ) (fun q => s.heap.size ≤ q)) (hxn : xN s) (hxz : xZ (fun q => s.heap.size ≤ q) s s.heap) (hxc : xNc s) (hX : va_X b L xs s s.heap) (hbl : b < s.heap.size) (HR : LawHyp Rel) {t : Nat} (ht : 5 * t + 5 ≤ L) {ax : Nat → Nat} {ao : Nat} (hnext : ∀ (ad : Nat → Nat) (x ms : jS) (out : Nat → Int64), Rel x ms → J p l e room_1 s m #[Value.ref b] below meth c 7 D (fun q => s.heap.size ≤ q) (wL ax ao cI cZ cJ) (lw_Z below #[Value.ref b] s) (80 + 10 * (t + 1)) (8000 + 1800 * (t + 1)) ((x, out), (ad, ms)) 1152 [(0, .ref b), (1, .ref (ax 0)), (2, .ref (ad 0)), (3, .ref ao), (4, .int (nI (5 * t)))] []) {ad : Nat → Nat} {x ms : jS} {out : Nat → Int64} (hR : Rel x ms) : J p l e room_1 s m #[Value.ref b] below meth c 7 D (fun q => s.heap.size ≤ q) (wL ax ao cI cZ cJ) (lw_Z below #[Value.ref b] s) (80 + 10 * t) (8000 + 1800 * t) ((x, out), (ad, ms)) 675 [(0, .ref b), (1, .ref (ax 0)), (2, .ref (ad 0)), (3, .ref ao), (4, .int (nI (5 * t)))] [] := by
  obtain ⟨w1, hw1⟩ : ∃ z, xs (nI (5 * t) + nI 1).toNatClampNeg = z := ⟨_, rfl⟩
  obtain ⟨w2, hw2⟩ : ∃ z, xs (nI (5 * t) + nI 2).toNatClampNeg = z := ⟨_, rfl⟩
  obtain ⟨w3, hw3⟩ : ∃ z, xs (nI (5 * t) + nI 3).toNatClampNeg = z := ⟨_, rfl⟩
  obtain ⟨w4, hw4⟩ : ∃ z, xs (nI (5 * t) + nI 4).toNatClampNeg = z := ⟨_, rfl⟩
  refine j_aload_n E 1 rfl rfl dL_law_675 ?_
  refine j_aload_n E 0 rfl rfl dL_law_676 ?_
  refine j_iload E 4 rfl dL_law_677 ?_
  refine j_iconst E ((by decide : Int32.ofInt (1) = 1)) dL_law_679 ?_
  refine j_iadd E dL_law_680 ?_
  refine j_sld E hX hbl (Nat.not_le.mpr hbl) (jsk (k := 1) (by omega) ht hL) dL_law_681 ?_
  refine j_topi hw1 ?_
  refine j_aload_n E 0 rfl rfl dL_law_682 ?_
  refine j_iload E 4 rfl dL_law_683 ?_
  refine j_iconst E ((by decide : Int32.ofInt (2) = 2)) dL_law_685 ?_
  refine j_iadd E dL_law_686 ?_
  refine j_sld E hX hbl (Nat.not_le.mpr hbl) (jsk (k := 2) (by omega) ht hL) dL_law_687 ?_
  refine j_topi hw2 ?_
  refine j_aload_n E 0 rfl rfl dL_law_688 ?_
  refine j_iload E 4 rfl dL_law_689 ?_
  refine j_iconst E ((by decide : Int32.ofInt (3) = 3)) dL_law_691 ?_
  refine j_iadd E dL_law_692 ?_
  refine j_sld E hX hbl (Nat.not_le.mpr hbl) (jsk (k := 3) (by omega) ht hL) dL_law_693 ?_
  refine j_topi hw3 ?_
  refine j_i2l E dL_law_694 ?_
  refine j_bipush E ((by decide : (Int8.ofInt (32)).toInt32 = 32)) dL_law_695 ?_
  refine j_lshl E dL_law_697 ?_
  refine j_aload_n E 0 rfl rfl dL_law_698 ?_
  refine j_iload E 4 rfl dL_law_699 ?_
  refine j_iconst E ((by decide : Int32.ofInt (4) = 4)) dL_law_701 ?_
  refine j_iadd E dL_law_702 ?_
  refine j_sld E hX hbl (Nat.not_le.mpr hbl) (jsk (k := 4) (by omega) ht hL) dL_law_703 ?_
  refine j_topi hw4 ?_
  refine j_i2l E dL_law_704 ?_
  refine j_ldc2 E (List.mem_append_left _ (List.mem_append_left _ (List.mem_append_left _ (List.mem_of_getElem? (i := 7) rfl)))) dL_law_705 ?_
  refine j_land E dL_law_708 ?_
  refine j_lor E dL_law_709 ?_
  refine j_aload_n E 3 rfl rfl dL_law_710 ?_
  obtain ⟨o1, q1, e1, e2, e3, e4, hR1⟩ := (HR.2.2.2.2.2.2.2.2.2.1) x ms out (w1) (w2) ((((w3).toInt64 <<< ((32 : Int32).toInt64 &&& 63)) ||| ((w4).toInt64 &&& (4294967295 : Int64)))) hR
  refine j_callW E hxn hxz hxc (As := [.ref (ax 0), .int w1, .int w2, .long (((w3).toInt64 <<< ((32 : Int32).toInt64 &&& 63)) ||| ((w4).toInt64 &&& (4294967295 : Int64))), .ref ao]) (c_L_replace hstt e1) (vx_cwSW 5 E.1.2.2.2.2 gL_law_L_replace rfl rfl rfl (by decide +kernel) ⟨Nat.le_of_ble_eq_true rfl, Nat.le_of_ble_eq_true rfl⟩) rfl rfl (Nat.le_of_ble_eq_true rfl) ⟨by show 80 + 10 * t + 1 ≤ 601024; omega, by show 8000 + 1800 * t + 6 ≤ 7293034; omega⟩ dL_law_711 ?_
  refine j_st (st' := (o1.2, (ad, ms))) rfl ?_
  refine j_istore E (by decide) (lv' := [(5, .int o1.1), (0, .ref b), (1, .ref (ax 0)), (2, .ref (ad 0)), (3, .ref ao), (4, .int (nI (5 * t)))]) rfl dL_law_714 ?_
  refine j_aload_n E 3 rfl rfl dL_law_716 ?_
  refine j_aload_n E 1 rfl rfl dL_law_717 ?_
  refine j_iload E 5 rfl dL_law_718 ?_
  refine j_iconst E ((by decide : Int32.ofInt (1) = 1)) dL_law_720 ?_
  refine j_iadd E dL_law_721 ?_
  refine j_sld E hX hbl (Nat.not_le.mpr hbl) (jsk (k := 1) (by omega) ht hL) dL_law_722 ?_
  refine j_topi hw1 ?_
  refine j_aload_n E 1 rfl rfl dL_law_723 ?_
  refine j_iload E 5 rfl dL_law_724 ?_
  refine j_iconst E ((by decide : Int32.ofInt (2) = 2)) dL_law_726 ?_
  refine j_iadd E dL_law_727 ?_
  refine j_sld E hX hbl (Nat.not_le.mpr hbl) (jsk (k := 2) (by omega) ht hL) dL_law_728 ?_
  refine j_topi hw2 ?_
  refine j_aload_n E 1 rfl rfl dL_law_729 ?_
  refine j_iload E 5 rfl dL_law_730 ?_
  refine j_iconst E ((by decide : Int32.ofInt (3) = 3)) dL_law_732 ?_
  refine j_iadd E dL_law_733 ?_
  refine j_sld E hX hbl (Nat.not_le.mpr hbl) (jsk (k := 3) (by omega) ht hL) dL_law_734 ?_
  refine j_topi hw3 ?_
  refine j_i2l E dL_law_735 ?_
  refine j_bipush E ((by decide : (Int8.ofInt (32)).toInt32 = 32)) dL_law_736 ?_
  refine j_lshl E dL_law_738 ?_
  refine j_aload_n E 1 rfl rfl dL_law_739 ?_
  refine j_iload E 5 rfl dL_law_740 ?_
  refine j_iconst E ((by decide : Int32.ofInt (4) = 4)) dL_law_742 ?_
  refine j_iadd E dL_law_743 ?_
  refine j_sld E hX hbl (Nat.not_le.mpr hbl) (jsk (k := 4) (by omega) ht hL) dL_law_744 ?_
  refine j_topi hw4 ?_
  refine j_i2l E dL_law_745 ?_
  refine j_ldc2 E (List.mem_append_left _ (List.mem_append_left _ (List.mem_append_left _ (List.mem_of_getElem? (i := 7) rfl)))) dL_law_746 ?_
  refine j_land E dL_law_749 ?_
  refine j_lor E dL_law_750 ?_
  refine j_callMN E (As := [.int w1, .int w2, .long (((w3).toInt64 <<< ((32 : Int32).toInt64 &&& 63)) ||| ((w4).toInt64 &&& (4294967295 : Int64)))]) (c_X6_replace rfl e2) (cwV 3 E.1.2.2.2.2 gL_law_X6_replace rfl rfl rfl (by decide +kernel) ⟨Nat.le_of_ble_eq_true rfl, Nat.le_of_ble_eq_true rfl⟩) rfl rfl (Nat.le_of_ble_eq_true rfl) ⟨by show 80 + 10 * t + 6 ≤ 601024; omega, by show 8000 + 1800 * t + 1686 ≤ 7293034; omega⟩ dL_law_751 (fun ad1 hq => ?_)
  replace hq : ad1 0 = ad 0 := hq
  rw [← hq]
  clear hq
  rename (Nat → Nat) => ad
  refine j_st (st' := (o1.2, (ad, q1.2))) rfl ?_
  refine j_istore E (by decide) (lv' := [(6, .int q1.1), (5, .int o1.1), (0, .ref b), (1, .ref (ax 0)), (2, .ref (ad 0)), (3, .ref ao), (4, .int (nI (5 * t)))]) rfl dL_law_754 ?_
  refine j_aload_n E 4 rfl rfl dL_law_756 ?_
  refine j_callMi E (As := []) (c_X6_thrown (o := (q1.2.2 0, q1.2)) rfl) (cwV 0 E.1.2.2.2.2 gL_law_X6_thrown rfl rfl rfl (by decide +kernel) ⟨Nat.le_of_ble_eq_true rfl, Nat.le_of_ble_eq_true rfl⟩) rfl rfl (Nat.le_of_ble_eq_true rfl) ⟨by show 80 + 10 * t + 6 ≤ 601024; omega, by show 8000 + 1800 * t + 1686 ≤ 7293034; omega⟩ dL_law_757 ?_
  refine j_st (st' := (o1.2, (ad, q1.2))) rfl ?_
  refine j_iload E 1 rfl dL_law_760 ?_
  refine j_icmp_eq E (tgt := 767) (by decide) dL_law_762 (fun c1 => ?_) (fun c1 => absurd e3 c1)
  refine j_iload E 1 rfl dL_law_767 ?_
  refine j_if_ne E (tgt := 784) (by decide) dL_law_769 (fun c0 => ?_) (fun c0 => ?_)
  · skip
    refine j_goto E (tgt := 1152) (by decide) dL_law_784 ?_
    refine j_sub [2, 3, 4, 5, 6] (lv' := [(0, .ref b), (1, .ref (ax 0)), (2, .ref (ad 0)), (3, .ref ao), (4, .int (nI (5 * t)))]) rfl ?_
    refine j_widen (k := 80 + 10 * (t + 1)) (n := 8000 + 1800 * (t + 1)) (by omega) (by omega) ?_
    exact hnext _ _ _ _ hR1
  · skip
    refine j_aload_n E 5 rfl rfl dL_law_772 ?_
    refine j_iconst E ((by decide : Int32.ofInt (0) = 0)) dL_law_773 ?_
    refine j_laldL E (job_in (by decide)) dL_law_774 ?_
    refine j_iload E 0 rfl dL_law_775 ?_
    refine j_i2l E dL_law_777 ?_
    refine j_lcmp E dL_law_778 ?_
    refine j_if_eq E (tgt := 784) (by decide) dL_law_779 (fun c3 => ?_) (fun c3 => absurd (lgc (e4 c0)) c3)
    refine j_goto E (tgt := 1152) (by decide) dL_law_784 ?_
    refine j_sub [2, 3, 4, 5, 6] (lv' := [(0, .ref b), (1, .ref (ax 0)), (2, .ref (ad 0)), (3, .ref ao), (4, .int (nI (5 * t)))]) rfl ?_
    refine j_widen (k := 80 + 10 * (t + 1)) (n := 8000 + 1800 * (t + 1)) (by omega) (by omega) ?_
    exact hnext _ _ _ _ hR1
set_option maxHeartbeats 4000000 in
set_option maxRecDepth 100000 in
theorem law_c10 {p : Program} {l : Launch} {e : Env} {s : State} {m : MethodId} {below : List Frame} {meth : Method} {c : Code} {D : va_G} {cI cZ cJ : ClassId} {b L : Nat} {xs : Nat → Int32} {Rel : jS → jS → Prop} (hstt : l.stackTraces = false) (hL : L ≤ 2560) (E : jE p s m #[Value.ref b] meth c cL_law 7 RL wsL_law D (jT3 cI cZ cJ) (fun q => s.heap.size ≤ q)) (hxn : xN s) (hxz : xZ (fun q => s.heap.size ≤ q) s s.heap) (hxc : xNc s) (hX : va_X b L xs s s.heap) (hbl : b < s.heap.size) (HR : LawHyp Rel) {t : Nat} (ht : 5 * t + 5 ≤ L) {ax : Nat → Nat} {ao : Nat} (hnext : ∀ (ad : Nat → Nat) (x ms : jS) (out : Nat → Int64), Rel x ms → J p l e room_1 s m #[Value.ref b] below meth c 7 D (fun q => s.heap.size ≤ q) (wL ax ao cI cZ cJ) (lw_Z below #[Value.ref b] s) (80 + 10 * (t + 1)) (8000 + 1800 * (t + 1)) ((x, out), (ad, ms)) 1152 [(0, .ref b), (1, .ref (ax 0)), (2, .ref (ad 0)), (3, .ref ao), (4, .int (nI (5 * t)))] []) {ad : Nat → Nat} {x ms : jS} {out : Nat → Int64} (hR : Rel x ms) : J p l e room_1 s m #[Value.ref b] below meth c 7 D (fun q => s.heap.size ≤ q) (wL ax ao cI cZ cJ) (lw_Z below #[Value.ref b] s) (80 + 10 * t) (8000 + 1800 * t) ((x, out), (ad, ms)) 787 [(0, .ref b), (1, .ref (ax 0)), (2, .ref (ad 0)), (3, .ref ao), (4, .int (nI (5 * t)))] [] := by
  obtain ⟨w1, hw1⟩ : ∃ z, xs (nI (5 * t) + nI 1).toNatClampNeg = z := ⟨_, rfl⟩
  obtain ⟨w2, hw2⟩ : ∃ z, xs (nI (5 * t) + nI 2).toNatClampNeg = z := ⟨_, rfl⟩
  obtain ⟨w3, hw3⟩ : ∃ z, xs (nI (5 * t) + nI 3).toNatClampNeg = z := ⟨_, rfl⟩
  obtain ⟨w4, hw4⟩ : ∃ z, xs (nI (5 * t) + nI 4).toNatClampNeg = z := ⟨_, rfl⟩
  refine j_aload_n E 1 rfl rfl dL_law_787 ?_
  obtain ⟨o1, q1, e1, e2, e3, hR1⟩ := (HR.2.2.2.2.2.2.2.2.2.2.1) x ms hR
  refine j_callXi E (As := []) (c_X5_size e1) (cwV 0 E.1.2.2.2.2 gL_law_X5_size rfl rfl rfl (by decide +kernel) ⟨Nat.le_of_ble_eq_true rfl, Nat.le_of_ble_eq_true rfl⟩) rfl rfl (Nat.le_of_ble_eq_true rfl) ⟨by show 80 + 10 * t + 0 ≤ 601024; omega, by show 8000 + 1800 * t + 0 ≤ 7293034; omega⟩ dL_law_788 ?_
  refine j_st (st' := ((o1.2, out), (ad, ms))) rfl ?_
  refine j_aload_n E 2 rfl rfl dL_law_791 ?_
  refine j_callMi E (As := []) (c_X6_size e2) (cwV 0 E.1.2.2.2.2 gL_law_X6_size rfl rfl rfl (by decide +kernel) ⟨Nat.le_of_ble_eq_true rfl, Nat.le_of_ble_eq_true rfl⟩) rfl rfl (Nat.le_of_ble_eq_true rfl) ⟨by show 80 + 10 * t + 0 ≤ 601024; omega, by show 8000 + 1800 * t + 0 ≤ 7293034; omega⟩ dL_law_792 ?_
  refine j_st (st' := ((o1.2, out), (ad, q1.2))) rfl ?_
  refine j_icmp_eq E (tgt := 1152) (by decide) dL_law_795 (fun c1 => ?_) (fun c1 => absurd e3 c1)
  refine j_sub [0, 1, 2, 3, 4] (lv' := [(0, .ref b), (1, .ref (ax 0)), (2, .ref (ad 0)), (3, .ref ao), (4, .int (nI (5 * t)))]) rfl ?_
  refine j_widen (k := 80 + 10 * (t + 1)) (n := 8000 + 1800 * (t + 1)) (by omega) (by omega) ?_
  exact hnext _ _ _ _ hR1
set_option maxHeartbeats 4000000 in
set_option maxRecDepth 100000 in
theorem law_c11 {p : Program} {l : Launch} {e : Env} {s : State} {m : MethodId} {below : List Frame} {meth : Method} {c : Code} {D : va_G} {cI cZ cJ : ClassId} {b L : Nat} {xs : Nat → Int32} {Rel : jS → jS → Prop} (hstt : l.stackTraces = false) (hL : L ≤ 2560) (E : jE p s m #[Value.ref b] meth c cL_law 7 RL wsL_law D (jT3 cI cZ cJ) (fun q => s.heap.size ≤ q)) (hxn : xN s) (hxz : xZ (fun q => s.heap.size ≤ q) s s.heap) (hxc : xNc s) (hX : va_X b L xs s s.heap) (hbl : b < s.heap.size) (HR : LawHyp Rel) {t : Nat} (ht : 5 * t + 5 ≤ L) {ax : Nat → Nat} {ao : Nat} (hnext : ∀ (ad : Nat → Nat) (x ms : jS) (out : Nat → Int64), Rel x ms → J p l e room_1 s m #[Value.ref b] below meth c 7 D (fun q => s.heap.size ≤ q) (wL ax ao cI cZ cJ) (lw_Z below #[Value.ref b] s) (80 + 10 * (t + 1)) (8000 + 1800 * (t + 1)) ((x, out), (ad, ms)) 1152 [(0, .ref b), (1, .ref (ax 0)), (2, .ref (ad 0)), (3, .ref ao), (4, .int (nI (5 * t)))] []) {ad : Nat → Nat} {x ms : jS} {out : Nat → Int64} (hR : Rel x ms) : J p l e room_1 s m #[Value.ref b] below meth c 7 D (fun q => s.heap.size ≤ q) (wL ax ao cI cZ cJ) (lw_Z below #[Value.ref b] s) (80 + 10 * t) (8000 + 1800 * t) ((x, out), (ad, ms)) 800 [(0, .ref b), (1, .ref (ax 0)), (2, .ref (ad 0)), (3, .ref ao), (4, .int (nI (5 * t)))] [] := by
  obtain ⟨w1, hw1⟩ : ∃ z, xs (nI (5 * t) + nI 1).toNatClampNeg = z := ⟨_, rfl⟩
  obtain ⟨w2, hw2⟩ : ∃ z, xs (nI (5 * t) + nI 2).toNatClampNeg = z := ⟨_, rfl⟩
  obtain ⟨w3, hw3⟩ : ∃ z, xs (nI (5 * t) + nI 3).toNatClampNeg = z := ⟨_, rfl⟩
  obtain ⟨w4, hw4⟩ : ∃ z, xs (nI (5 * t) + nI 4).toNatClampNeg = z := ⟨_, rfl⟩
  refine j_aload_n E 1 rfl rfl dL_law_800 ?_
  refine j_aload_n E 0 rfl rfl dL_law_801 ?_
  refine j_iload E 4 rfl dL_law_802 ?_
  refine j_iconst E ((by decide : Int32.ofInt (1) = 1)) dL_law_804 ?_
  refine j_iadd E dL_law_805 ?_
  refine j_sld E hX hbl (Nat.not_le.mpr hbl) (jsk (k := 1) (by omega) ht hL) dL_law_806 ?_
  refine j_topi hw1 ?_
  refine j_aload_n E 3 rfl rfl dL_law_807 ?_
  obtain ⟨o1, q1, e1, e2, e3, e4, hR1⟩ := (HR.2.2.2.2.2.2.2.2.2.2.2.1) x ms out (w1) hR
  refine j_callW E hxn hxz hxc (As := [.ref (ax 0), .int w1, .ref ao]) (c_L_byteAt hstt e1) (vx_cwSW 3 E.1.2.2.2.2 gL_law_L_byteAt rfl rfl rfl (by decide +kernel) ⟨Nat.le_of_ble_eq_true rfl, Nat.le_of_ble_eq_true rfl⟩) rfl rfl (Nat.le_of_ble_eq_true rfl) ⟨by show 80 + 10 * t + 1 ≤ 601024; omega, by show 8000 + 1800 * t + 6 ≤ 7293034; omega⟩ dL_law_808 ?_
  refine j_st (st' := (o1.2, (ad, ms))) rfl ?_
  refine j_istore E (by decide) (lv' := [(5, .int o1.1), (0, .ref b), (1, .ref (ax 0)), (2, .ref (ad 0)), (3, .ref ao), (4, .int (nI (5 * t)))]) rfl dL_law_811 ?_
  refine j_aload_n E 3 rfl rfl dL_law_813 ?_
  refine j_aload_n E 1 rfl rfl dL_law_814 ?_
  refine j_iload E 5 rfl dL_law_815 ?_
  refine j_iconst E ((by decide : Int32.ofInt (1) = 1)) dL_law_817 ?_
  refine j_iadd E dL_law_818 ?_
  refine j_sld E hX hbl (Nat.not_le.mpr hbl) (jsk (k := 1) (by omega) ht hL) dL_law_819 ?_
  refine j_topi hw1 ?_
  refine j_callMi E (As := [.int w1]) (c_X6_byteAt e2) (cwV 1 E.1.2.2.2.2 gL_law_X6_byteAt rfl rfl rfl (by decide +kernel) ⟨Nat.le_of_ble_eq_true rfl, Nat.le_of_ble_eq_true rfl⟩) rfl rfl (Nat.le_of_ble_eq_true rfl) ⟨by show 80 + 10 * t + 1 ≤ 601024; omega, by show 8000 + 1800 * t + 6 ≤ 7293034; omega⟩ dL_law_820 ?_
  refine j_st (st' := (o1.2, (ad, q1.2))) rfl ?_
  refine j_istore E (by decide) (lv' := [(6, .int q1.1), (5, .int o1.1), (0, .ref b), (1, .ref (ax 0)), (2, .ref (ad 0)), (3, .ref ao), (4, .int (nI (5 * t)))]) rfl dL_law_823 ?_
  refine j_aload_n E 4 rfl rfl dL_law_825 ?_
  refine j_callMi E (As := []) (c_X6_thrown (o := (q1.2.2 0, q1.2)) rfl) (cwV 0 E.1.2.2.2.2 gL_law_X6_thrown rfl rfl rfl (by decide +kernel) ⟨Nat.le_of_ble_eq_true rfl, Nat.le_of_ble_eq_true rfl⟩) rfl rfl (Nat.le_of_ble_eq_true rfl) ⟨by show 80 + 10 * t + 1 ≤ 601024; omega, by show 8000 + 1800 * t + 6 ≤ 7293034; omega⟩ dL_law_826 ?_
  refine j_st (st' := (o1.2, (ad, q1.2))) rfl ?_
  refine j_iload E 1 rfl dL_law_829 ?_
  refine j_icmp_eq E (tgt := 836) (by decide) dL_law_831 (fun c1 => ?_) (fun c1 => absurd e3 c1)
  refine j_iload E 1 rfl dL_law_836 ?_
  refine j_if_ne E (tgt := 853) (by decide) dL_law_838 (fun c0 => ?_) (fun c0 => ?_)
  · skip
    refine j_goto E (tgt := 1152) (by decide) dL_law_853 ?_
    refine j_sub [2, 3, 4, 5, 6] (lv' := [(0, .ref b), (1, .ref (ax 0)), (2, .ref (ad 0)), (3, .ref ao), (4, .int (nI (5 * t)))]) rfl ?_
    refine j_widen (k := 80 + 10 * (t + 1)) (n := 8000 + 1800 * (t + 1)) (by omega) (by omega) ?_
    exact hnext _ _ _ _ hR1
  · skip
    refine j_aload_n E 5 rfl rfl dL_law_841 ?_
    refine j_iconst E ((by decide : Int32.ofInt (0) = 0)) dL_law_842 ?_
    refine j_laldL E (job_in (by decide)) dL_law_843 ?_
    refine j_iload E 0 rfl dL_law_844 ?_
    refine j_i2l E dL_law_846 ?_
    refine j_lcmp E dL_law_847 ?_
    refine j_if_eq E (tgt := 853) (by decide) dL_law_848 (fun c3 => ?_) (fun c3 => absurd (lgc (e4 c0)) c3)
    refine j_goto E (tgt := 1152) (by decide) dL_law_853 ?_
    refine j_sub [2, 3, 4, 5, 6] (lv' := [(0, .ref b), (1, .ref (ax 0)), (2, .ref (ad 0)), (3, .ref ao), (4, .int (nI (5 * t)))]) rfl ?_
    refine j_widen (k := 80 + 10 * (t + 1)) (n := 8000 + 1800 * (t + 1)) (by omega) (by omega) ?_
    exact hnext _ _ _ _ hR1
set_option maxHeartbeats 4000000 in
set_option maxRecDepth 100000 in
theorem law_c12 {p : Program} {l : Launch} {e : Env} {s : State} {m : MethodId} {below : List Frame} {meth : Method} {c : Code} {D : va_G} {cI cZ cJ : ClassId} {b L : Nat} {xs : Nat → Int32} {Rel : jS → jS → Prop} (hstt : l.stackTraces = false) (hL : L ≤ 2560) (E : jE p s m #[Value.ref b] meth c cL_law 7 RL wsL_law D (jT3 cI cZ cJ) (fun q => s.heap.size ≤ q)) (hxn : xN s) (hxz : xZ (fun q => s.heap.size ≤ q) s s.heap) (hxc : xNc s) (hX : va_X b L xs s s.heap) (hbl : b < s.heap.size) (HR : LawHyp Rel) {t : Nat} (ht : 5 * t + 5 ≤ L) {ax : Nat → Nat} {ao : Nat} (hnext : ∀ (ad : Nat → Nat) (x ms : jS) (out : Nat → Int64), Rel x ms → J p l e room_1 s m #[Value.ref b] below meth c 7 D (fun q => s.heap.size ≤ q) (wL ax ao cI cZ cJ) (lw_Z below #[Value.ref b] s) (80 + 10 * (t + 1)) (8000 + 1800 * (t + 1)) ((x, out), (ad, ms)) 1152 [(0, .ref b), (1, .ref (ax 0)), (2, .ref (ad 0)), (3, .ref ao), (4, .int (nI (5 * t)))] []) {ad : Nat → Nat} {x ms : jS} {out : Nat → Int64} (hR : Rel x ms) : J p l e room_1 s m #[Value.ref b] below meth c 7 D (fun q => s.heap.size ≤ q) (wL ax ao cI cZ cJ) (lw_Z below #[Value.ref b] s) (80 + 10 * t) (8000 + 1800 * t) ((x, out), (ad, ms)) 856 [(0, .ref b), (1, .ref (ax 0)), (2, .ref (ad 0)), (3, .ref ao), (4, .int (nI (5 * t)))] [] := by
  obtain ⟨w1, hw1⟩ : ∃ z, xs (nI (5 * t) + nI 1).toNatClampNeg = z := ⟨_, rfl⟩
  obtain ⟨w2, hw2⟩ : ∃ z, xs (nI (5 * t) + nI 2).toNatClampNeg = z := ⟨_, rfl⟩
  obtain ⟨w3, hw3⟩ : ∃ z, xs (nI (5 * t) + nI 3).toNatClampNeg = z := ⟨_, rfl⟩
  obtain ⟨w4, hw4⟩ : ∃ z, xs (nI (5 * t) + nI 4).toNatClampNeg = z := ⟨_, rfl⟩
  refine j_aload_n E 1 rfl rfl dL_law_856 ?_
  refine j_aload_n E 0 rfl rfl dL_law_857 ?_
  refine j_iload E 4 rfl dL_law_858 ?_
  refine j_iconst E ((by decide : Int32.ofInt (1) = 1)) dL_law_860 ?_
  refine j_iadd E dL_law_861 ?_
  refine j_sld E hX hbl (Nat.not_le.mpr hbl) (jsk (k := 1) (by omega) ht hL) dL_law_862 ?_
  refine j_topi hw1 ?_
  refine j_aload_n E 0 rfl rfl dL_law_863 ?_
  refine j_iload E 4 rfl dL_law_864 ?_
  refine j_iconst E ((by decide : Int32.ofInt (2) = 2)) dL_law_866 ?_
  refine j_iadd E dL_law_867 ?_
  refine j_sld E hX hbl (Nat.not_le.mpr hbl) (jsk (k := 2) (by omega) ht hL) dL_law_868 ?_
  refine j_topi hw2 ?_
  refine j_aload_n E 3 rfl rfl dL_law_869 ?_
  obtain ⟨o1, q1, e1, e2, e3, e4, hR1⟩ := (HR.2.2.2.2.2.2.2.2.2.2.2.2.1) x ms out (w1) (w2) hR
  refine j_callW E hxn hxz hxc (As := [.ref (ax 0), .int w1, .int w2, .ref ao]) (c_L_parse hstt e1) (vx_cwSW 4 E.1.2.2.2.2 gL_law_L_parse rfl rfl rfl (by decide +kernel) ⟨Nat.le_of_ble_eq_true rfl, Nat.le_of_ble_eq_true rfl⟩) rfl rfl (Nat.le_of_ble_eq_true rfl) ⟨by show 80 + 10 * t + 2 ≤ 601024; omega, by show 8000 + 1800 * t + 12 ≤ 7293034; omega⟩ dL_law_870 ?_
  refine j_st (st' := (o1.2, (ad, ms))) rfl ?_
  refine j_istore E (by decide) (lv' := [(5, .int o1.1), (0, .ref b), (1, .ref (ax 0)), (2, .ref (ad 0)), (3, .ref ao), (4, .int (nI (5 * t)))]) rfl dL_law_873 ?_
  refine j_aload_n E 3 rfl rfl dL_law_875 ?_
  refine j_aload_n E 1 rfl rfl dL_law_876 ?_
  refine j_iload E 5 rfl dL_law_877 ?_
  refine j_iconst E ((by decide : Int32.ofInt (1) = 1)) dL_law_879 ?_
  refine j_iadd E dL_law_880 ?_
  refine j_sld E hX hbl (Nat.not_le.mpr hbl) (jsk (k := 1) (by omega) ht hL) dL_law_881 ?_
  refine j_topi hw1 ?_
  refine j_aload_n E 1 rfl rfl dL_law_882 ?_
  refine j_iload E 5 rfl dL_law_883 ?_
  refine j_iconst E ((by decide : Int32.ofInt (2) = 2)) dL_law_885 ?_
  refine j_iadd E dL_law_886 ?_
  refine j_sld E hX hbl (Nat.not_le.mpr hbl) (jsk (k := 2) (by omega) ht hL) dL_law_887 ?_
  refine j_topi hw2 ?_
  refine j_callMi E (As := [.int w1, .int w2]) (c_X6_parseT e2) (cwV 2 E.1.2.2.2.2 gL_law_X6_parse rfl rfl rfl (by decide +kernel) ⟨Nat.le_of_ble_eq_true rfl, Nat.le_of_ble_eq_true rfl⟩) rfl rfl (Nat.le_of_ble_eq_true rfl) ⟨by show 80 + 10 * t + 2 ≤ 601024; omega, by show 8000 + 1800 * t + 12 ≤ 7293034; omega⟩ dL_law_888 ?_
  refine j_st (st' := (o1.2, (ad, q1.2))) rfl ?_
  refine j_istore E (by decide) (lv' := [(6, .int q1.1), (5, .int o1.1), (0, .ref b), (1, .ref (ax 0)), (2, .ref (ad 0)), (3, .ref ao), (4, .int (nI (5 * t)))]) rfl dL_law_891 ?_
  refine j_aload_n E 4 rfl rfl dL_law_893 ?_
  refine j_callMi E (As := []) (c_X6_thrown (o := (q1.2.2 0, q1.2)) rfl) (cwV 0 E.1.2.2.2.2 gL_law_X6_thrown rfl rfl rfl (by decide +kernel) ⟨Nat.le_of_ble_eq_true rfl, Nat.le_of_ble_eq_true rfl⟩) rfl rfl (Nat.le_of_ble_eq_true rfl) ⟨by show 80 + 10 * t + 2 ≤ 601024; omega, by show 8000 + 1800 * t + 12 ≤ 7293034; omega⟩ dL_law_894 ?_
  refine j_st (st' := (o1.2, (ad, q1.2))) rfl ?_
  refine j_iload E 1 rfl dL_law_897 ?_
  refine j_icmp_eq E (tgt := 904) (by decide) dL_law_899 (fun c1 => ?_) (fun c1 => absurd e3 c1)
  refine j_iload E 1 rfl dL_law_904 ?_
  refine j_if_ne E (tgt := 921) (by decide) dL_law_906 (fun c0 => ?_) (fun c0 => ?_)
  · skip
    refine j_goto E (tgt := 1152) (by decide) dL_law_921 ?_
    refine j_sub [2, 3, 4, 5, 6] (lv' := [(0, .ref b), (1, .ref (ax 0)), (2, .ref (ad 0)), (3, .ref ao), (4, .int (nI (5 * t)))]) rfl ?_
    refine j_widen (k := 80 + 10 * (t + 1)) (n := 8000 + 1800 * (t + 1)) (by omega) (by omega) ?_
    exact hnext _ _ _ _ hR1
  · skip
    refine j_aload_n E 5 rfl rfl dL_law_909 ?_
    refine j_iconst E ((by decide : Int32.ofInt (0) = 0)) dL_law_910 ?_
    refine j_laldL E (job_in (by decide)) dL_law_911 ?_
    refine j_iload E 0 rfl dL_law_912 ?_
    refine j_i2l E dL_law_914 ?_
    refine j_lcmp E dL_law_915 ?_
    refine j_if_eq E (tgt := 921) (by decide) dL_law_916 (fun c3 => ?_) (fun c3 => absurd (lgc (e4 c0)) c3)
    refine j_goto E (tgt := 1152) (by decide) dL_law_921 ?_
    refine j_sub [2, 3, 4, 5, 6] (lv' := [(0, .ref b), (1, .ref (ax 0)), (2, .ref (ad 0)), (3, .ref ao), (4, .int (nI (5 * t)))]) rfl ?_
    refine j_widen (k := 80 + 10 * (t + 1)) (n := 8000 + 1800 * (t + 1)) (by omega) (by omega) ?_
    exact hnext _ _ _ _ hR1
set_option maxHeartbeats 4000000 in
set_option maxRecDepth 100000 in
theorem law_c13 {p : Program} {l : Launch} {e : Env} {s : State} {m : MethodId} {below : List Frame} {meth : Method} {c : Code} {D : va_G} {cI cZ cJ : ClassId} {b L : Nat} {xs : Nat → Int32} {Rel : jS → jS → Prop} (hstt : l.stackTraces = false) (hL : L ≤ 2560) (E : jE p s m #[Value.ref b] meth c cL_law 7 RL wsL_law D (jT3 cI cZ cJ) (fun q => s.heap.size ≤ q)) (hxn : xN s) (hxz : xZ (fun q => s.heap.size ≤ q) s s.heap) (hxc : xNc s) (hX : va_X b L xs s s.heap) (hbl : b < s.heap.size) (HR : LawHyp Rel) {t : Nat} (ht : 5 * t + 5 ≤ L) {ax : Nat → Nat} {ao : Nat} (hnext : ∀ (ad : Nat → Nat) (x ms : jS) (out : Nat → Int64), Rel x ms → J p l e room_1 s m #[Value.ref b] below meth c 7 D (fun q => s.heap.size ≤ q) (wL ax ao cI cZ cJ) (lw_Z below #[Value.ref b] s) (80 + 10 * (t + 1)) (8000 + 1800 * (t + 1)) ((x, out), (ad, ms)) 1152 [(0, .ref b), (1, .ref (ax 0)), (2, .ref (ad 0)), (3, .ref ao), (4, .int (nI (5 * t)))] []) {ad : Nat → Nat} {x ms : jS} {out : Nat → Int64} (hR : Rel x ms) : J p l e room_1 s m #[Value.ref b] below meth c 7 D (fun q => s.heap.size ≤ q) (wL ax ao cI cZ cJ) (lw_Z below #[Value.ref b] s) (80 + 10 * t) (8000 + 1800 * t) ((x, out), (ad, ms)) 924 [(0, .ref b), (1, .ref (ax 0)), (2, .ref (ad 0)), (3, .ref ao), (4, .int (nI (5 * t)))] [] := by
  obtain ⟨w1, hw1⟩ : ∃ z, xs (nI (5 * t) + nI 1).toNatClampNeg = z := ⟨_, rfl⟩
  obtain ⟨w2, hw2⟩ : ∃ z, xs (nI (5 * t) + nI 2).toNatClampNeg = z := ⟨_, rfl⟩
  obtain ⟨w3, hw3⟩ : ∃ z, xs (nI (5 * t) + nI 3).toNatClampNeg = z := ⟨_, rfl⟩
  obtain ⟨w4, hw4⟩ : ∃ z, xs (nI (5 * t) + nI 4).toNatClampNeg = z := ⟨_, rfl⟩
  refine j_aload_n E 1 rfl rfl dL_law_924 ?_
  obtain ⟨o1, q1, e1, e2, e3, hR1⟩ := (HR.2.2.2.2.2.2.2.2.2.2.2.2.2.1) x ms hR
  refine j_callXi E (As := []) (c_X5_work e1) (cwV 0 E.1.2.2.2.2 gL_law_X5_work rfl rfl rfl (by decide +kernel) ⟨Nat.le_of_ble_eq_true rfl, Nat.le_of_ble_eq_true rfl⟩) rfl rfl (Nat.le_of_ble_eq_true rfl) ⟨by show 80 + 10 * t + 0 ≤ 601024; omega, by show 8000 + 1800 * t + 0 ≤ 7293034; omega⟩ dL_law_925 ?_
  refine j_st (st' := ((o1.2, out), (ad, ms))) rfl ?_
  refine j_aload_n E 2 rfl rfl dL_law_928 ?_
  refine j_callMi E (As := []) (c_X6_work e2) (cwV 0 E.1.2.2.2.2 gL_law_X6_work rfl rfl rfl (by decide +kernel) ⟨Nat.le_of_ble_eq_true rfl, Nat.le_of_ble_eq_true rfl⟩) rfl rfl (Nat.le_of_ble_eq_true rfl) ⟨by show 80 + 10 * t + 0 ≤ 601024; omega, by show 8000 + 1800 * t + 0 ≤ 7293034; omega⟩ dL_law_929 ?_
  refine j_st (st' := ((o1.2, out), (ad, q1.2))) rfl ?_
  refine j_icmp_eq E (tgt := 1152) (by decide) dL_law_932 (fun c1 => ?_) (fun c1 => absurd e3 c1)
  refine j_sub [0, 1, 2, 3, 4] (lv' := [(0, .ref b), (1, .ref (ax 0)), (2, .ref (ad 0)), (3, .ref ao), (4, .int (nI (5 * t)))]) rfl ?_
  refine j_widen (k := 80 + 10 * (t + 1)) (n := 8000 + 1800 * (t + 1)) (by omega) (by omega) ?_
  exact hnext _ _ _ _ hR1
set_option maxHeartbeats 4000000 in
set_option maxRecDepth 100000 in
theorem law_c14 {p : Program} {l : Launch} {e : Env} {s : State} {m : MethodId} {below : List Frame} {meth : Method} {c : Code} {D : va_G} {cI cZ cJ : ClassId} {b L : Nat} {xs : Nat → Int32} {Rel : jS → jS → Prop} (hstt : l.stackTraces = false) (hL : L ≤ 2560) (E : jE p s m #[Value.ref b] meth c cL_law 7 RL wsL_law D (jT3 cI cZ cJ) (fun q => s.heap.size ≤ q)) (hxn : xN s) (hxz : xZ (fun q => s.heap.size ≤ q) s s.heap) (hxc : xNc s) (hX : va_X b L xs s s.heap) (hbl : b < s.heap.size) (HR : LawHyp Rel) {t : Nat} (ht : 5 * t + 5 ≤ L) {ax : Nat → Nat} {ao : Nat} (hnext : ∀ (ad : Nat → Nat) (x ms : jS) (out : Nat → Int64), Rel x ms → J p l e room_1 s m #[Value.ref b] below meth c 7 D (fun q => s.heap.size ≤ q) (wL ax ao cI cZ cJ) (lw_Z below #[Value.ref b] s) (80 + 10 * (t + 1)) (8000 + 1800 * (t + 1)) ((x, out), (ad, ms)) 1152 [(0, .ref b), (1, .ref (ax 0)), (2, .ref (ad 0)), (3, .ref ao), (4, .int (nI (5 * t)))] []) {ad : Nat → Nat} {x ms : jS} {out : Nat → Int64} (hR : Rel x ms) : J p l e room_1 s m #[Value.ref b] below meth c 7 D (fun q => s.heap.size ≤ q) (wL ax ao cI cZ cJ) (lw_Z below #[Value.ref b] s) (80 + 10 * t) (8000 + 1800 * t) ((x, out), (ad, ms)) 937 [(0, .ref b), (1, .ref (ax 0)), (2, .ref (ad 0)), (3, .ref ao), (4, .int (nI (5 * t)))] [] := by
  obtain ⟨w1, hw1⟩ : ∃ z, xs (nI (5 * t) + nI 1).toNatClampNeg = z := ⟨_, rfl⟩
  obtain ⟨w2, hw2⟩ : ∃ z, xs (nI (5 * t) + nI 2).toNatClampNeg = z := ⟨_, rfl⟩
  obtain ⟨w3, hw3⟩ : ∃ z, xs (nI (5 * t) + nI 3).toNatClampNeg = z := ⟨_, rfl⟩
  obtain ⟨w4, hw4⟩ : ∃ z, xs (nI (5 * t) + nI 4).toNatClampNeg = z := ⟨_, rfl⟩
  refine j_aload_n E 1 rfl rfl dL_law_937 ?_
  obtain ⟨o1, q1, e1, e2, e3, hR1⟩ := (HR.2.2.2.2.2.2.2.2.2.2.2.2.2.2.1) x ms hR
  refine j_callXi E (As := []) (c_X5_hits e1) (cwV 0 E.1.2.2.2.2 gL_law_X5_hits rfl rfl rfl (by decide +kernel) ⟨Nat.le_of_ble_eq_true rfl, Nat.le_of_ble_eq_true rfl⟩) rfl rfl (Nat.le_of_ble_eq_true rfl) ⟨by show 80 + 10 * t + 0 ≤ 601024; omega, by show 8000 + 1800 * t + 0 ≤ 7293034; omega⟩ dL_law_938 ?_
  refine j_st (st' := ((o1.2, out), (ad, ms))) rfl ?_
  refine j_aload_n E 2 rfl rfl dL_law_941 ?_
  refine j_callMi E (As := []) (c_X6_hits e2) (cwV 0 E.1.2.2.2.2 gL_law_X6_hits rfl rfl rfl (by decide +kernel) ⟨Nat.le_of_ble_eq_true rfl, Nat.le_of_ble_eq_true rfl⟩) rfl rfl (Nat.le_of_ble_eq_true rfl) ⟨by show 80 + 10 * t + 0 ≤ 601024; omega, by show 8000 + 1800 * t + 0 ≤ 7293034; omega⟩ dL_law_942 ?_
  refine j_st (st' := ((o1.2, out), (ad, q1.2))) rfl ?_
  refine j_icmp_eq E (tgt := 1152) (by decide) dL_law_945 (fun c1 => ?_) (fun c1 => absurd e3 c1)
  refine j_sub [0, 1, 2, 3, 4] (lv' := [(0, .ref b), (1, .ref (ax 0)), (2, .ref (ad 0)), (3, .ref ao), (4, .int (nI (5 * t)))]) rfl ?_
  refine j_widen (k := 80 + 10 * (t + 1)) (n := 8000 + 1800 * (t + 1)) (by omega) (by omega) ?_
  exact hnext _ _ _ _ hR1
set_option maxHeartbeats 4000000 in
set_option maxRecDepth 100000 in
theorem law_c15 {p : Program} {l : Launch} {e : Env} {s : State} {m : MethodId} {below : List Frame} {meth : Method} {c : Code} {D : va_G} {cI cZ cJ : ClassId} {b L : Nat} {xs : Nat → Int32} {Rel : jS → jS → Prop} (hstt : l.stackTraces = false) (hL : L ≤ 2560) (E : jE p s m #[Value.ref b] meth c cL_law 7 RL wsL_law D (jT3 cI cZ cJ) (fun q => s.heap.size ≤ q)) (hxn : xN s) (hxz : xZ (fun q => s.heap.size ≤ q) s s.heap) (hxc : xNc s) (hX : va_X b L xs s s.heap) (hbl : b < s.heap.size) (HR : LawHyp Rel) {t : Nat} (ht : 5 * t + 5 ≤ L) {ax : Nat → Nat} {ao : Nat} (hnext : ∀ (ad : Nat → Nat) (x ms : jS) (out : Nat → Int64), Rel x ms → J p l e room_1 s m #[Value.ref b] below meth c 7 D (fun q => s.heap.size ≤ q) (wL ax ao cI cZ cJ) (lw_Z below #[Value.ref b] s) (80 + 10 * (t + 1)) (8000 + 1800 * (t + 1)) ((x, out), (ad, ms)) 1152 [(0, .ref b), (1, .ref (ax 0)), (2, .ref (ad 0)), (3, .ref ao), (4, .int (nI (5 * t)))] []) {ad : Nat → Nat} {x ms : jS} {out : Nat → Int64} (hR : Rel x ms) : J p l e room_1 s m #[Value.ref b] below meth c 7 D (fun q => s.heap.size ≤ q) (wL ax ao cI cZ cJ) (lw_Z below #[Value.ref b] s) (80 + 10 * t) (8000 + 1800 * t) ((x, out), (ad, ms)) 950 [(0, .ref b), (1, .ref (ax 0)), (2, .ref (ad 0)), (3, .ref ao), (4, .int (nI (5 * t)))] [] := by
  obtain ⟨w1, hw1⟩ : ∃ z, xs (nI (5 * t) + nI 1).toNatClampNeg = z := ⟨_, rfl⟩
  obtain ⟨w2, hw2⟩ : ∃ z, xs (nI (5 * t) + nI 2).toNatClampNeg = z := ⟨_, rfl⟩
  obtain ⟨w3, hw3⟩ : ∃ z, xs (nI (5 * t) + nI 3).toNatClampNeg = z := ⟨_, rfl⟩
  obtain ⟨w4, hw4⟩ : ∃ z, xs (nI (5 * t) + nI 4).toNatClampNeg = z := ⟨_, rfl⟩
  refine j_aload_n E 1 rfl rfl dL_law_950 ?_
  obtain ⟨o1, q1, e1, e2, e3, hR1⟩ := (HR.2.2.2.2.2.2.2.2.2.2.2.2.2.2.2.1) x ms hR
  refine j_callXi E (As := []) (c_X5_growths e1) (cwV 0 E.1.2.2.2.2 gL_law_X5_growths rfl rfl rfl (by decide +kernel) ⟨Nat.le_of_ble_eq_true rfl, Nat.le_of_ble_eq_true rfl⟩) rfl rfl (Nat.le_of_ble_eq_true rfl) ⟨by show 80 + 10 * t + 0 ≤ 601024; omega, by show 8000 + 1800 * t + 0 ≤ 7293034; omega⟩ dL_law_951 ?_
  refine j_st (st' := ((o1.2, out), (ad, ms))) rfl ?_
  refine j_aload_n E 2 rfl rfl dL_law_954 ?_
  refine j_callMi E (As := []) (c_X6_growths e2) (cwV 0 E.1.2.2.2.2 gL_law_X6_growths rfl rfl rfl (by decide +kernel) ⟨Nat.le_of_ble_eq_true rfl, Nat.le_of_ble_eq_true rfl⟩) rfl rfl (Nat.le_of_ble_eq_true rfl) ⟨by show 80 + 10 * t + 0 ≤ 601024; omega, by show 8000 + 1800 * t + 0 ≤ 7293034; omega⟩ dL_law_955 ?_
  refine j_st (st' := ((o1.2, out), (ad, q1.2))) rfl ?_
  refine j_icmp_eq E (tgt := 1152) (by decide) dL_law_958 (fun c1 => ?_) (fun c1 => absurd e3 c1)
  refine j_sub [0, 1, 2, 3, 4] (lv' := [(0, .ref b), (1, .ref (ax 0)), (2, .ref (ad 0)), (3, .ref ao), (4, .int (nI (5 * t)))]) rfl ?_
  refine j_widen (k := 80 + 10 * (t + 1)) (n := 8000 + 1800 * (t + 1)) (by omega) (by omega) ?_
  exact hnext _ _ _ _ hR1
set_option maxHeartbeats 4000000 in
set_option maxRecDepth 100000 in
theorem law_c16 {p : Program} {l : Launch} {e : Env} {s : State} {m : MethodId} {below : List Frame} {meth : Method} {c : Code} {D : va_G} {cI cZ cJ : ClassId} {b L : Nat} {xs : Nat → Int32} {Rel : jS → jS → Prop} (hstt : l.stackTraces = false) (hL : L ≤ 2560) (E : jE p s m #[Value.ref b] meth c cL_law 7 RL wsL_law D (jT3 cI cZ cJ) (fun q => s.heap.size ≤ q)) (hxn : xN s) (hxz : xZ (fun q => s.heap.size ≤ q) s s.heap) (hxc : xNc s) (hX : va_X b L xs s s.heap) (hbl : b < s.heap.size) (HR : LawHyp Rel) {t : Nat} (ht : 5 * t + 5 ≤ L) {ax : Nat → Nat} {ao : Nat} (hnext : ∀ (ad : Nat → Nat) (x ms : jS) (out : Nat → Int64), Rel x ms → J p l e room_1 s m #[Value.ref b] below meth c 7 D (fun q => s.heap.size ≤ q) (wL ax ao cI cZ cJ) (lw_Z below #[Value.ref b] s) (80 + 10 * (t + 1)) (8000 + 1800 * (t + 1)) ((x, out), (ad, ms)) 1152 [(0, .ref b), (1, .ref (ax 0)), (2, .ref (ad 0)), (3, .ref ao), (4, .int (nI (5 * t)))] []) {ad : Nat → Nat} {x ms : jS} {out : Nat → Int64} (hR : Rel x ms) : J p l e room_1 s m #[Value.ref b] below meth c 7 D (fun q => s.heap.size ≤ q) (wL ax ao cI cZ cJ) (lw_Z below #[Value.ref b] s) (80 + 10 * t) (8000 + 1800 * t) ((x, out), (ad, ms)) 963 [(0, .ref b), (1, .ref (ax 0)), (2, .ref (ad 0)), (3, .ref ao), (4, .int (nI (5 * t)))] [] := by
  obtain ⟨w1, hw1⟩ : ∃ z, xs (nI (5 * t) + nI 1).toNatClampNeg = z := ⟨_, rfl⟩
  obtain ⟨w2, hw2⟩ : ∃ z, xs (nI (5 * t) + nI 2).toNatClampNeg = z := ⟨_, rfl⟩
  obtain ⟨w3, hw3⟩ : ∃ z, xs (nI (5 * t) + nI 3).toNatClampNeg = z := ⟨_, rfl⟩
  obtain ⟨w4, hw4⟩ : ∃ z, xs (nI (5 * t) + nI 4).toNatClampNeg = z := ⟨_, rfl⟩
  refine j_aload_n E 1 rfl rfl dL_law_963 ?_
  obtain ⟨o1, q1, e1, e2, e3, hR1⟩ := (HR.2.2.2.2.2.2.2.2.2.2.2.2.2.2.2.2.1) x ms hR
  refine j_callXi E (As := []) (c_X5_farthest e1) (cwV 0 E.1.2.2.2.2 gL_law_X5_farthest rfl rfl rfl (by decide +kernel) ⟨Nat.le_of_ble_eq_true rfl, Nat.le_of_ble_eq_true rfl⟩) rfl rfl (Nat.le_of_ble_eq_true rfl) ⟨by show 80 + 10 * t + 0 ≤ 601024; omega, by show 8000 + 1800 * t + 0 ≤ 7293034; omega⟩ dL_law_964 ?_
  refine j_st (st' := ((o1.2, out), (ad, ms))) rfl ?_
  refine j_aload_n E 2 rfl rfl dL_law_967 ?_
  refine j_callMi E (As := []) (c_X6_farthest e2) (cwV 0 E.1.2.2.2.2 gL_law_X6_farthest rfl rfl rfl (by decide +kernel) ⟨Nat.le_of_ble_eq_true rfl, Nat.le_of_ble_eq_true rfl⟩) rfl rfl (Nat.le_of_ble_eq_true rfl) ⟨by show 80 + 10 * t + 0 ≤ 601024; omega, by show 8000 + 1800 * t + 0 ≤ 7293034; omega⟩ dL_law_968 ?_
  refine j_st (st' := ((o1.2, out), (ad, q1.2))) rfl ?_
  refine j_icmp_eq E (tgt := 1152) (by decide) dL_law_971 (fun c1 => ?_) (fun c1 => absurd e3 c1)
  refine j_sub [0, 1, 2, 3, 4] (lv' := [(0, .ref b), (1, .ref (ax 0)), (2, .ref (ad 0)), (3, .ref ao), (4, .int (nI (5 * t)))]) rfl ?_
  refine j_widen (k := 80 + 10 * (t + 1)) (n := 8000 + 1800 * (t + 1)) (by omega) (by omega) ?_
  exact hnext _ _ _ _ hR1
set_option maxHeartbeats 4000000 in
set_option maxRecDepth 100000 in
theorem law_c17 {p : Program} {l : Launch} {e : Env} {s : State} {m : MethodId} {below : List Frame} {meth : Method} {c : Code} {D : va_G} {cI cZ cJ : ClassId} {b L : Nat} {xs : Nat → Int32} {Rel : jS → jS → Prop} (hstt : l.stackTraces = false) (hL : L ≤ 2560) (E : jE p s m #[Value.ref b] meth c cL_law 7 RL wsL_law D (jT3 cI cZ cJ) (fun q => s.heap.size ≤ q)) (hxn : xN s) (hxz : xZ (fun q => s.heap.size ≤ q) s s.heap) (hxc : xNc s) (hX : va_X b L xs s s.heap) (hbl : b < s.heap.size) (HR : LawHyp Rel) {t : Nat} (ht : 5 * t + 5 ≤ L) {ax : Nat → Nat} {ao : Nat} (hnext : ∀ (ad : Nat → Nat) (x ms : jS) (out : Nat → Int64), Rel x ms → J p l e room_1 s m #[Value.ref b] below meth c 7 D (fun q => s.heap.size ≤ q) (wL ax ao cI cZ cJ) (lw_Z below #[Value.ref b] s) (80 + 10 * (t + 1)) (8000 + 1800 * (t + 1)) ((x, out), (ad, ms)) 1152 [(0, .ref b), (1, .ref (ax 0)), (2, .ref (ad 0)), (3, .ref ao), (4, .int (nI (5 * t)))] []) {ad : Nat → Nat} {x ms : jS} {out : Nat → Int64} (hR : Rel x ms) : J p l e room_1 s m #[Value.ref b] below meth c 7 D (fun q => s.heap.size ≤ q) (wL ax ao cI cZ cJ) (lw_Z below #[Value.ref b] s) (80 + 10 * t) (8000 + 1800 * t) ((x, out), (ad, ms)) 976 [(0, .ref b), (1, .ref (ax 0)), (2, .ref (ad 0)), (3, .ref ao), (4, .int (nI (5 * t)))] [] := by
  obtain ⟨w1, hw1⟩ : ∃ z, xs (nI (5 * t) + nI 1).toNatClampNeg = z := ⟨_, rfl⟩
  obtain ⟨w2, hw2⟩ : ∃ z, xs (nI (5 * t) + nI 2).toNatClampNeg = z := ⟨_, rfl⟩
  obtain ⟨w3, hw3⟩ : ∃ z, xs (nI (5 * t) + nI 3).toNatClampNeg = z := ⟨_, rfl⟩
  obtain ⟨w4, hw4⟩ : ∃ z, xs (nI (5 * t) + nI 4).toNatClampNeg = z := ⟨_, rfl⟩
  refine j_aload_n E 1 rfl rfl dL_law_976 ?_
  obtain ⟨o1, q1, e1, e2, e3, hR1⟩ := (HR.2.2.2.2.2.2.2.2.2.2.2.2.2.2.2.2.2.1) x ms hR
  refine j_callXi E (As := []) (c_X5_remembered e1) (cwV 0 E.1.2.2.2.2 gL_law_X5_remembered rfl rfl rfl (by decide +kernel) ⟨Nat.le_of_ble_eq_true rfl, Nat.le_of_ble_eq_true rfl⟩) rfl rfl (Nat.le_of_ble_eq_true rfl) ⟨by show 80 + 10 * t + 0 ≤ 601024; omega, by show 8000 + 1800 * t + 0 ≤ 7293034; omega⟩ dL_law_977 ?_
  refine j_st (st' := ((o1.2, out), (ad, ms))) rfl ?_
  refine j_aload_n E 2 rfl rfl dL_law_980 ?_
  refine j_callMi E (As := []) (c_X6_remembered e2) (cwV 0 E.1.2.2.2.2 gL_law_X6_remembered rfl rfl rfl (by decide +kernel) ⟨Nat.le_of_ble_eq_true rfl, Nat.le_of_ble_eq_true rfl⟩) rfl rfl (Nat.le_of_ble_eq_true rfl) ⟨by show 80 + 10 * t + 0 ≤ 601024; omega, by show 8000 + 1800 * t + 0 ≤ 7293034; omega⟩ dL_law_981 ?_
  refine j_st (st' := ((o1.2, out), (ad, q1.2))) rfl ?_
  refine j_icmp_eq E (tgt := 1152) (by decide) dL_law_984 (fun c1 => ?_) (fun c1 => absurd e3 c1)
  refine j_sub [0, 1, 2, 3, 4] (lv' := [(0, .ref b), (1, .ref (ax 0)), (2, .ref (ad 0)), (3, .ref ao), (4, .int (nI (5 * t)))]) rfl ?_
  refine j_widen (k := 80 + 10 * (t + 1)) (n := 8000 + 1800 * (t + 1)) (by omega) (by omega) ?_
  exact hnext _ _ _ _ hR1
set_option maxHeartbeats 4000000 in
set_option maxRecDepth 100000 in
theorem law_c18 {p : Program} {l : Launch} {e : Env} {s : State} {m : MethodId} {below : List Frame} {meth : Method} {c : Code} {D : va_G} {cI cZ cJ : ClassId} {b L : Nat} {xs : Nat → Int32} {Rel : jS → jS → Prop} (hstt : l.stackTraces = false) (hL : L ≤ 2560) (E : jE p s m #[Value.ref b] meth c cL_law 7 RL wsL_law D (jT3 cI cZ cJ) (fun q => s.heap.size ≤ q)) (hxn : xN s) (hxz : xZ (fun q => s.heap.size ≤ q) s s.heap) (hxc : xNc s) (hX : va_X b L xs s s.heap) (hbl : b < s.heap.size) (HR : LawHyp Rel) {t : Nat} (ht : 5 * t + 5 ≤ L) {ax : Nat → Nat} {ao : Nat} (hnext : ∀ (ad : Nat → Nat) (x ms : jS) (out : Nat → Int64), Rel x ms → J p l e room_1 s m #[Value.ref b] below meth c 7 D (fun q => s.heap.size ≤ q) (wL ax ao cI cZ cJ) (lw_Z below #[Value.ref b] s) (80 + 10 * (t + 1)) (8000 + 1800 * (t + 1)) ((x, out), (ad, ms)) 1152 [(0, .ref b), (1, .ref (ax 0)), (2, .ref (ad 0)), (3, .ref ao), (4, .int (nI (5 * t)))] []) {ad : Nat → Nat} {x ms : jS} {out : Nat → Int64} (hR : Rel x ms) : J p l e room_1 s m #[Value.ref b] below meth c 7 D (fun q => s.heap.size ≤ q) (wL ax ao cI cZ cJ) (lw_Z below #[Value.ref b] s) (80 + 10 * t) (8000 + 1800 * t) ((x, out), (ad, ms)) 989 [(0, .ref b), (1, .ref (ax 0)), (2, .ref (ad 0)), (3, .ref ao), (4, .int (nI (5 * t)))] [] := by
  obtain ⟨w1, hw1⟩ : ∃ z, xs (nI (5 * t) + nI 1).toNatClampNeg = z := ⟨_, rfl⟩
  obtain ⟨w2, hw2⟩ : ∃ z, xs (nI (5 * t) + nI 2).toNatClampNeg = z := ⟨_, rfl⟩
  obtain ⟨w3, hw3⟩ : ∃ z, xs (nI (5 * t) + nI 3).toNatClampNeg = z := ⟨_, rfl⟩
  obtain ⟨w4, hw4⟩ : ∃ z, xs (nI (5 * t) + nI 4).toNatClampNeg = z := ⟨_, rfl⟩
  refine j_aload_n E 1 rfl rfl dL_law_989 ?_
  refine j_aload_n E 0 rfl rfl dL_law_990 ?_
  refine j_iload E 4 rfl dL_law_991 ?_
  refine j_iconst E ((by decide : Int32.ofInt (1) = 1)) dL_law_993 ?_
  refine j_iadd E dL_law_994 ?_
  refine j_sld E hX hbl (Nat.not_le.mpr hbl) (jsk (k := 1) (by omega) ht hL) dL_law_995 ?_
  refine j_topi hw1 ?_
  refine j_aload_n E 0 rfl rfl dL_law_996 ?_
  refine j_iload E 4 rfl dL_law_997 ?_
  refine j_iconst E ((by decide : Int32.ofInt (2) = 2)) dL_law_999 ?_
  refine j_iadd E dL_law_1000 ?_
  refine j_sld E hX hbl (Nat.not_le.mpr hbl) (jsk (k := 2) (by omega) ht hL) dL_law_1001 ?_
  refine j_topi hw2 ?_
  refine j_aload_n E 3 rfl rfl dL_law_1002 ?_
  obtain ⟨o1, q1, e1, e2, e3, e4, hR1⟩ := (HR.2.2.2.2.2.2.2.2.2.2.2.2.2.2.2.2.2.2.1) x ms out (w1) (w2) hR
  refine j_callW E hxn hxz hxc (As := [.ref (ax 0), .int w1, .int w2, .ref ao]) (c_L_result hstt e1) (vx_cwSW 4 E.1.2.2.2.2 gL_law_L_result rfl rfl rfl (by decide +kernel) ⟨Nat.le_of_ble_eq_true rfl, Nat.le_of_ble_eq_true rfl⟩) rfl rfl (Nat.le_of_ble_eq_true rfl) ⟨by show 80 + 10 * t + 2 ≤ 601024; omega, by show 8000 + 1800 * t + 12 ≤ 7293034; omega⟩ dL_law_1003 ?_
  refine j_st (st' := (o1.2, (ad, ms))) rfl ?_
  refine j_istore E (by decide) (lv' := [(5, .int o1.1), (0, .ref b), (1, .ref (ax 0)), (2, .ref (ad 0)), (3, .ref ao), (4, .int (nI (5 * t)))]) rfl dL_law_1006 ?_
  refine j_aload_n E 3 rfl rfl dL_law_1008 ?_
  refine j_aload_n E 1 rfl rfl dL_law_1009 ?_
  refine j_iload E 5 rfl dL_law_1010 ?_
  refine j_iconst E ((by decide : Int32.ofInt (1) = 1)) dL_law_1012 ?_
  refine j_iadd E dL_law_1013 ?_
  refine j_sld E hX hbl (Nat.not_le.mpr hbl) (jsk (k := 1) (by omega) ht hL) dL_law_1014 ?_
  refine j_topi hw1 ?_
  refine j_aload_n E 1 rfl rfl dL_law_1015 ?_
  refine j_iload E 5 rfl dL_law_1016 ?_
  refine j_iconst E ((by decide : Int32.ofInt (2) = 2)) dL_law_1018 ?_
  refine j_iadd E dL_law_1019 ?_
  refine j_sld E hX hbl (Nat.not_le.mpr hbl) (jsk (k := 2) (by omega) ht hL) dL_law_1020 ?_
  refine j_topi hw2 ?_
  refine j_callMi E (As := [.int w1, .int w2]) (c_X6_result e2) (cwV 2 E.1.2.2.2.2 gL_law_X6_result rfl rfl rfl (by decide +kernel) ⟨Nat.le_of_ble_eq_true rfl, Nat.le_of_ble_eq_true rfl⟩) rfl rfl (Nat.le_of_ble_eq_true rfl) ⟨by show 80 + 10 * t + 2 ≤ 601024; omega, by show 8000 + 1800 * t + 12 ≤ 7293034; omega⟩ dL_law_1021 ?_
  refine j_st (st' := (o1.2, (ad, q1.2))) rfl ?_
  refine j_istore E (by decide) (lv' := [(6, .int q1.1), (5, .int o1.1), (0, .ref b), (1, .ref (ax 0)), (2, .ref (ad 0)), (3, .ref ao), (4, .int (nI (5 * t)))]) rfl dL_law_1024 ?_
  refine j_aload_n E 4 rfl rfl dL_law_1026 ?_
  refine j_callMi E (As := []) (c_X6_thrown (o := (q1.2.2 0, q1.2)) rfl) (cwV 0 E.1.2.2.2.2 gL_law_X6_thrown rfl rfl rfl (by decide +kernel) ⟨Nat.le_of_ble_eq_true rfl, Nat.le_of_ble_eq_true rfl⟩) rfl rfl (Nat.le_of_ble_eq_true rfl) ⟨by show 80 + 10 * t + 2 ≤ 601024; omega, by show 8000 + 1800 * t + 12 ≤ 7293034; omega⟩ dL_law_1027 ?_
  refine j_st (st' := (o1.2, (ad, q1.2))) rfl ?_
  refine j_iload E 1 rfl dL_law_1030 ?_
  refine j_icmp_eq E (tgt := 1037) (by decide) dL_law_1032 (fun c1 => ?_) (fun c1 => absurd e3 c1)
  refine j_iload E 1 rfl dL_law_1037 ?_
  refine j_if_ne E (tgt := 1054) (by decide) dL_law_1039 (fun c0 => ?_) (fun c0 => ?_)
  · skip
    refine j_goto E (tgt := 1152) (by decide) dL_law_1054 ?_
    refine j_sub [2, 3, 4, 5, 6] (lv' := [(0, .ref b), (1, .ref (ax 0)), (2, .ref (ad 0)), (3, .ref ao), (4, .int (nI (5 * t)))]) rfl ?_
    refine j_widen (k := 80 + 10 * (t + 1)) (n := 8000 + 1800 * (t + 1)) (by omega) (by omega) ?_
    exact hnext _ _ _ _ hR1
  · skip
    refine j_aload_n E 5 rfl rfl dL_law_1042 ?_
    refine j_iconst E ((by decide : Int32.ofInt (0) = 0)) dL_law_1043 ?_
    refine j_laldL E (job_in (by decide)) dL_law_1044 ?_
    refine j_iload E 0 rfl dL_law_1045 ?_
    refine j_i2l E dL_law_1047 ?_
    refine j_lcmp E dL_law_1048 ?_
    refine j_if_eq E (tgt := 1054) (by decide) dL_law_1049 (fun c3 => ?_) (fun c3 => absurd (lgc (e4 c0)) c3)
    refine j_goto E (tgt := 1152) (by decide) dL_law_1054 ?_
    refine j_sub [2, 3, 4, 5, 6] (lv' := [(0, .ref b), (1, .ref (ax 0)), (2, .ref (ad 0)), (3, .ref ao), (4, .int (nI (5 * t)))]) rfl ?_
    refine j_widen (k := 80 + 10 * (t + 1)) (n := 8000 + 1800 * (t + 1)) (by omega) (by omega) ?_
    exact hnext _ _ _ _ hR1
set_option maxHeartbeats 4000000 in
set_option maxRecDepth 100000 in
theorem law_c19 {p : Program} {l : Launch} {e : Env} {s : State} {m : MethodId} {below : List Frame} {meth : Method} {c : Code} {D : va_G} {cI cZ cJ : ClassId} {b L : Nat} {xs : Nat → Int32} {Rel : jS → jS → Prop} (hstt : l.stackTraces = false) (hL : L ≤ 2560) (E : jE p s m #[Value.ref b] meth c cL_law 7 RL wsL_law D (jT3 cI cZ cJ) (fun q => s.heap.size ≤ q)) (hxn : xN s) (hxz : xZ (fun q => s.heap.size ≤ q) s s.heap) (hxc : xNc s) (hX : va_X b L xs s s.heap) (hbl : b < s.heap.size) (HR : LawHyp Rel) {t : Nat} (ht : 5 * t + 5 ≤ L) {ax : Nat → Nat} {ao : Nat} (hnext : ∀ (ad : Nat → Nat) (x ms : jS) (out : Nat → Int64), Rel x ms → J p l e room_1 s m #[Value.ref b] below meth c 7 D (fun q => s.heap.size ≤ q) (wL ax ao cI cZ cJ) (lw_Z below #[Value.ref b] s) (80 + 10 * (t + 1)) (8000 + 1800 * (t + 1)) ((x, out), (ad, ms)) 1152 [(0, .ref b), (1, .ref (ax 0)), (2, .ref (ad 0)), (3, .ref ao), (4, .int (nI (5 * t)))] []) {ad : Nat → Nat} {x ms : jS} {out : Nat → Int64} (hR : Rel x ms) : J p l e room_1 s m #[Value.ref b] below meth c 7 D (fun q => s.heap.size ≤ q) (wL ax ao cI cZ cJ) (lw_Z below #[Value.ref b] s) (80 + 10 * t) (8000 + 1800 * t) ((x, out), (ad, ms)) 1057 [(0, .ref b), (1, .ref (ax 0)), (2, .ref (ad 0)), (3, .ref ao), (4, .int (nI (5 * t)))] [] := by
  obtain ⟨w1, hw1⟩ : ∃ z, xs (nI (5 * t) + nI 1).toNatClampNeg = z := ⟨_, rfl⟩
  obtain ⟨w2, hw2⟩ : ∃ z, xs (nI (5 * t) + nI 2).toNatClampNeg = z := ⟨_, rfl⟩
  obtain ⟨w3, hw3⟩ : ∃ z, xs (nI (5 * t) + nI 3).toNatClampNeg = z := ⟨_, rfl⟩
  obtain ⟨w4, hw4⟩ : ∃ z, xs (nI (5 * t) + nI 4).toNatClampNeg = z := ⟨_, rfl⟩
  refine j_aload_n E 1 rfl rfl dL_law_1057 ?_
  refine j_aload_n E 0 rfl rfl dL_law_1058 ?_
  refine j_iload E 4 rfl dL_law_1059 ?_
  refine j_iconst E ((by decide : Int32.ofInt (1) = 1)) dL_law_1061 ?_
  refine j_iadd E dL_law_1062 ?_
  refine j_sld E hX hbl (Nat.not_le.mpr hbl) (jsk (k := 1) (by omega) ht hL) dL_law_1063 ?_
  refine j_topi hw1 ?_
  refine j_aload_n E 0 rfl rfl dL_law_1064 ?_
  refine j_iload E 4 rfl dL_law_1065 ?_
  refine j_iconst E ((by decide : Int32.ofInt (2) = 2)) dL_law_1067 ?_
  refine j_iadd E dL_law_1068 ?_
  refine j_sld E hX hbl (Nat.not_le.mpr hbl) (jsk (k := 2) (by omega) ht hL) dL_law_1069 ?_
  refine j_topi hw2 ?_
  refine j_aload_n E 3 rfl rfl dL_law_1070 ?_
  obtain ⟨o1, q1, e1, e2, e3, e4, hR1⟩ := (HR.2.2.2.2.2.2.2.2.2.2.2.2.2.2.2.2.2.2.2.1) x ms out (w1) (w2) hR
  refine j_callW E hxn hxz hxc (As := [.ref (ax 0), .int w1, .int w2, .ref ao]) (c_L_reach hstt e1) (vx_cwSW 4 E.1.2.2.2.2 gL_law_L_reach rfl rfl rfl (by decide +kernel) ⟨Nat.le_of_ble_eq_true rfl, Nat.le_of_ble_eq_true rfl⟩) rfl rfl (Nat.le_of_ble_eq_true rfl) ⟨by show 80 + 10 * t + 2 ≤ 601024; omega, by show 8000 + 1800 * t + 12 ≤ 7293034; omega⟩ dL_law_1071 ?_
  refine j_st (st' := (o1.2, (ad, ms))) rfl ?_
  refine j_istore E (by decide) (lv' := [(5, .int o1.1), (0, .ref b), (1, .ref (ax 0)), (2, .ref (ad 0)), (3, .ref ao), (4, .int (nI (5 * t)))]) rfl dL_law_1074 ?_
  refine j_aload_n E 3 rfl rfl dL_law_1076 ?_
  refine j_aload_n E 1 rfl rfl dL_law_1077 ?_
  refine j_iload E 5 rfl dL_law_1078 ?_
  refine j_iconst E ((by decide : Int32.ofInt (1) = 1)) dL_law_1080 ?_
  refine j_iadd E dL_law_1081 ?_
  refine j_sld E hX hbl (Nat.not_le.mpr hbl) (jsk (k := 1) (by omega) ht hL) dL_law_1082 ?_
  refine j_topi hw1 ?_
  refine j_aload_n E 1 rfl rfl dL_law_1083 ?_
  refine j_iload E 5 rfl dL_law_1084 ?_
  refine j_iconst E ((by decide : Int32.ofInt (2) = 2)) dL_law_1086 ?_
  refine j_iadd E dL_law_1087 ?_
  refine j_sld E hX hbl (Nat.not_le.mpr hbl) (jsk (k := 2) (by omega) ht hL) dL_law_1088 ?_
  refine j_topi hw2 ?_
  refine j_callMi E (As := [.int w1, .int w2]) (c_X6_reach e2) (cwV 2 E.1.2.2.2.2 gL_law_X6_reach rfl rfl rfl (by decide +kernel) ⟨Nat.le_of_ble_eq_true rfl, Nat.le_of_ble_eq_true rfl⟩) rfl rfl (Nat.le_of_ble_eq_true rfl) ⟨by show 80 + 10 * t + 2 ≤ 601024; omega, by show 8000 + 1800 * t + 12 ≤ 7293034; omega⟩ dL_law_1089 ?_
  refine j_st (st' := (o1.2, (ad, q1.2))) rfl ?_
  refine j_istore E (by decide) (lv' := [(6, .int q1.1), (5, .int o1.1), (0, .ref b), (1, .ref (ax 0)), (2, .ref (ad 0)), (3, .ref ao), (4, .int (nI (5 * t)))]) rfl dL_law_1092 ?_
  refine j_aload_n E 4 rfl rfl dL_law_1094 ?_
  refine j_callMi E (As := []) (c_X6_thrown (o := (q1.2.2 0, q1.2)) rfl) (cwV 0 E.1.2.2.2.2 gL_law_X6_thrown rfl rfl rfl (by decide +kernel) ⟨Nat.le_of_ble_eq_true rfl, Nat.le_of_ble_eq_true rfl⟩) rfl rfl (Nat.le_of_ble_eq_true rfl) ⟨by show 80 + 10 * t + 2 ≤ 601024; omega, by show 8000 + 1800 * t + 12 ≤ 7293034; omega⟩ dL_law_1095 ?_
  refine j_st (st' := (o1.2, (ad, q1.2))) rfl ?_
  refine j_iload E 1 rfl dL_law_1098 ?_
  refine j_icmp_eq E (tgt := 1105) (by decide) dL_law_1100 (fun c1 => ?_) (fun c1 => absurd e3 c1)
  refine j_iload E 1 rfl dL_law_1105 ?_
  refine j_if_ne E (tgt := 1122) (by decide) dL_law_1107 (fun c0 => ?_) (fun c0 => ?_)
  · skip
    refine j_goto E (tgt := 1152) (by decide) dL_law_1122 ?_
    refine j_sub [2, 3, 4, 5, 6] (lv' := [(0, .ref b), (1, .ref (ax 0)), (2, .ref (ad 0)), (3, .ref ao), (4, .int (nI (5 * t)))]) rfl ?_
    refine j_widen (k := 80 + 10 * (t + 1)) (n := 8000 + 1800 * (t + 1)) (by omega) (by omega) ?_
    exact hnext _ _ _ _ hR1
  · skip
    refine j_aload_n E 5 rfl rfl dL_law_1110 ?_
    refine j_iconst E ((by decide : Int32.ofInt (0) = 0)) dL_law_1111 ?_
    refine j_laldL E (job_in (by decide)) dL_law_1112 ?_
    refine j_iload E 0 rfl dL_law_1113 ?_
    refine j_i2l E dL_law_1115 ?_
    refine j_lcmp E dL_law_1116 ?_
    refine j_if_eq E (tgt := 1122) (by decide) dL_law_1117 (fun c3 => ?_) (fun c3 => absurd (lgc (e4 c0)) c3)
    refine j_goto E (tgt := 1152) (by decide) dL_law_1122 ?_
    refine j_sub [2, 3, 4, 5, 6] (lv' := [(0, .ref b), (1, .ref (ax 0)), (2, .ref (ad 0)), (3, .ref ao), (4, .int (nI (5 * t)))]) rfl ?_
    refine j_widen (k := 80 + 10 * (t + 1)) (n := 8000 + 1800 * (t + 1)) (by omega) (by omega) ?_
    exact hnext _ _ _ _ hR1
set_option maxHeartbeats 4000000 in
set_option maxRecDepth 100000 in
theorem law_c20 {p : Program} {l : Launch} {e : Env} {s : State} {m : MethodId} {below : List Frame} {meth : Method} {c : Code} {D : va_G} {cI cZ cJ : ClassId} {b L : Nat} {xs : Nat → Int32} {Rel : jS → jS → Prop} (hstt : l.stackTraces = false) (hL : L ≤ 2560) (E : jE p s m #[Value.ref b] meth c cL_law 7 RL wsL_law D (jT3 cI cZ cJ) (fun q => s.heap.size ≤ q)) (hxn : xN s) (hxz : xZ (fun q => s.heap.size ≤ q) s s.heap) (hxc : xNc s) (hX : va_X b L xs s s.heap) (hbl : b < s.heap.size) (HR : LawHyp Rel) {t : Nat} (ht : 5 * t + 5 ≤ L) {ax : Nat → Nat} {ao : Nat} (hnext : ∀ (ad : Nat → Nat) (x ms : jS) (out : Nat → Int64), Rel x ms → J p l e room_1 s m #[Value.ref b] below meth c 7 D (fun q => s.heap.size ≤ q) (wL ax ao cI cZ cJ) (lw_Z below #[Value.ref b] s) (80 + 10 * (t + 1)) (8000 + 1800 * (t + 1)) ((x, out), (ad, ms)) 1152 [(0, .ref b), (1, .ref (ax 0)), (2, .ref (ad 0)), (3, .ref ao), (4, .int (nI (5 * t)))] []) {ad : Nat → Nat} {x ms : jS} {out : Nat → Int64} (hR : Rel x ms) : J p l e room_1 s m #[Value.ref b] below meth c 7 D (fun q => s.heap.size ≤ q) (wL ax ao cI cZ cJ) (lw_Z below #[Value.ref b] s) (80 + 10 * t) (8000 + 1800 * t) ((x, out), (ad, ms)) 1125 [(0, .ref b), (1, .ref (ax 0)), (2, .ref (ad 0)), (3, .ref ao), (4, .int (nI (5 * t)))] [] := by
  obtain ⟨w1, hw1⟩ : ∃ z, xs (nI (5 * t) + nI 1).toNatClampNeg = z := ⟨_, rfl⟩
  obtain ⟨w2, hw2⟩ : ∃ z, xs (nI (5 * t) + nI 2).toNatClampNeg = z := ⟨_, rfl⟩
  obtain ⟨w3, hw3⟩ : ∃ z, xs (nI (5 * t) + nI 3).toNatClampNeg = z := ⟨_, rfl⟩
  obtain ⟨w4, hw4⟩ : ∃ z, xs (nI (5 * t) + nI 4).toNatClampNeg = z := ⟨_, rfl⟩
  refine j_aload_n E 1 rfl rfl dL_law_1125 ?_
  obtain ⟨o1, q1, e1, e2, e3, hR1⟩ := (HR.2.2.2.2.2.2.2.2.2.2.2.2.2.2.2.2.2.2.2.2.1) x ms hR
  refine j_callXi E (As := []) (c_X5_forget e1) (cwV 0 E.1.2.2.2.2 gL_law_X5_forget rfl rfl rfl (by decide +kernel) ⟨Nat.le_of_ble_eq_true rfl, Nat.le_of_ble_eq_true rfl⟩) rfl rfl (Nat.le_of_ble_eq_true rfl) ⟨by show 80 + 10 * t + 0 ≤ 601024; omega, by show 8000 + 1800 * t + 0 ≤ 7293034; omega⟩ dL_law_1126 ?_
  refine j_st (st' := ((o1.2, out), (ad, ms))) rfl ?_
  refine j_aload_n E 2 rfl rfl dL_law_1129 ?_
  refine j_callMi E (As := []) (c_X6_forget e2) (cwV 0 E.1.2.2.2.2 gL_law_X6_forget rfl rfl rfl (by decide +kernel) ⟨Nat.le_of_ble_eq_true rfl, Nat.le_of_ble_eq_true rfl⟩) rfl rfl (Nat.le_of_ble_eq_true rfl) ⟨by show 80 + 10 * t + 0 ≤ 601024; omega, by show 8000 + 1800 * t + 0 ≤ 7293034; omega⟩ dL_law_1130 ?_
  refine j_st (st' := ((o1.2, out), (ad, q1.2))) rfl ?_
  refine j_icmp_eq E (tgt := 1152) (by decide) dL_law_1133 (fun c1 => ?_) (fun c1 => absurd e3 c1)
  refine j_sub [0, 1, 2, 3, 4] (lv' := [(0, .ref b), (1, .ref (ax 0)), (2, .ref (ad 0)), (3, .ref ao), (4, .int (nI (5 * t)))]) rfl ?_
  refine j_widen (k := 80 + 10 * (t + 1)) (n := 8000 + 1800 * (t + 1)) (by omega) (by omega) ?_
  exact hnext _ _ _ _ hR1
set_option maxHeartbeats 4000000 in
set_option maxRecDepth 100000 in
theorem law_c21 {p : Program} {l : Launch} {e : Env} {s : State} {m : MethodId} {below : List Frame} {meth : Method} {c : Code} {D : va_G} {cI cZ cJ : ClassId} {b L : Nat} {xs : Nat → Int32} {Rel : jS → jS → Prop} (hstt : l.stackTraces = false) (hL : L ≤ 2560) (E : jE p s m #[Value.ref b] meth c cL_law 7 RL wsL_law D (jT3 cI cZ cJ) (fun q => s.heap.size ≤ q)) (hxn : xN s) (hxz : xZ (fun q => s.heap.size ≤ q) s s.heap) (hxc : xNc s) (hX : va_X b L xs s s.heap) (hbl : b < s.heap.size) (HR : LawHyp Rel) {t : Nat} (ht : 5 * t + 5 ≤ L) {ax : Nat → Nat} {ao : Nat} (hnext : ∀ (ad : Nat → Nat) (x ms : jS) (out : Nat → Int64), Rel x ms → J p l e room_1 s m #[Value.ref b] below meth c 7 D (fun q => s.heap.size ≤ q) (wL ax ao cI cZ cJ) (lw_Z below #[Value.ref b] s) (80 + 10 * (t + 1)) (8000 + 1800 * (t + 1)) ((x, out), (ad, ms)) 1152 [(0, .ref b), (1, .ref (ax 0)), (2, .ref (ad 0)), (3, .ref ao), (4, .int (nI (5 * t)))] []) {ad : Nat → Nat} {x ms : jS} {out : Nat → Int64} (hR : Rel x ms) : J p l e room_1 s m #[Value.ref b] below meth c 7 D (fun q => s.heap.size ≤ q) (wL ax ao cI cZ cJ) (lw_Z below #[Value.ref b] s) (80 + 10 * t) (8000 + 1800 * t) ((x, out), (ad, ms)) 1138 [(0, .ref b), (1, .ref (ax 0)), (2, .ref (ad 0)), (3, .ref ao), (4, .int (nI (5 * t)))] [] := by
  obtain ⟨w1, hw1⟩ : ∃ z, xs (nI (5 * t) + nI 1).toNatClampNeg = z := ⟨_, rfl⟩
  obtain ⟨w2, hw2⟩ : ∃ z, xs (nI (5 * t) + nI 2).toNatClampNeg = z := ⟨_, rfl⟩
  obtain ⟨w3, hw3⟩ : ∃ z, xs (nI (5 * t) + nI 3).toNatClampNeg = z := ⟨_, rfl⟩
  obtain ⟨w4, hw4⟩ : ∃ z, xs (nI (5 * t) + nI 4).toNatClampNeg = z := ⟨_, rfl⟩
  refine j_aload_n E 1 rfl rfl dL_law_1138 ?_
  obtain ⟨o1, q1, e1, e2, e3, hR1⟩ := (HR.2.2.2.2.2.2.2.2.2.2.2.2.2.2.2.2.2.2.2.2.2) x ms hR
  refine j_callXl E (As := []) (c_X5_digest e1) (cwV 0 E.1.2.2.2.2 gL_law_X5_digest rfl rfl rfl (by decide +kernel) ⟨Nat.le_of_ble_eq_true rfl, Nat.le_of_ble_eq_true rfl⟩) rfl rfl (Nat.le_of_ble_eq_true rfl) ⟨by show 80 + 10 * t + 0 ≤ 601024; omega, by show 8000 + 1800 * t + 0 ≤ 7293034; omega⟩ dL_law_1139 ?_
  refine j_st (st' := ((o1.2, out), (ad, ms))) rfl ?_
  refine j_aload_n E 2 rfl rfl dL_law_1142 ?_
  refine j_callMl E (As := []) (c_X6_digest e2) (cwV 0 E.1.2.2.2.2 gL_law_X6_digest rfl rfl rfl (by decide +kernel) ⟨Nat.le_of_ble_eq_true rfl, Nat.le_of_ble_eq_true rfl⟩) rfl rfl (Nat.le_of_ble_eq_true rfl) ⟨by show 80 + 10 * t + 0 ≤ 601024; omega, by show 8000 + 1800 * t + 0 ≤ 7293034; omega⟩ dL_law_1143 ?_
  refine j_st (st' := ((o1.2, out), (ad, q1.2))) rfl ?_
  refine j_lcmp E dL_law_1146 ?_
  refine j_if_eq E (tgt := 1152) (by decide) dL_law_1147 (fun c3 => ?_) (fun c3 => absurd (lgc (e3)) c3)
  refine j_sub [0, 1, 2, 3, 4] (lv' := [(0, .ref b), (1, .ref (ax 0)), (2, .ref (ad 0)), (3, .ref ao), (4, .int (nI (5 * t)))]) rfl ?_
  refine j_widen (k := 80 + 10 * (t + 1)) (n := 8000 + 1800 * (t + 1)) (by omega) (by omega) ?_
  exact hnext _ _ _ _ hR1
