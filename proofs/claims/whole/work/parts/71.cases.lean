/-! the cases of the law, one a call -/
section LC
variable {p : Program} {l : Launch} {e : Env} {s : State} {m : MethodId} {args : Array Value} {below : List Frame} {meth : Method} {c : Code} {b L : Nat} {xs : Nat → Int32} {dC : Nat → ClassId} {dI : Nat → Nat → Nat} {ad : Nat → Nat} {cI cB : ClassId} {Q : State → Prop}
set_option maxHeartbeats 4000000 in
set_option maxRecDepth 100000 in
theorem lx_c0 (C : lx_Fix p l e s m args below meth c b L xs dC dI ad cI cB) {i : Nat} {A : AS} {w : PW} {H : Heap} {locs : List Loc} {ls : Array Slot} (hi : i + 6 ≤ L) (hl : lv_has ls 4 [(0, .ref b), (1, .ref (ad 0)), (2, .ref (ad 46)), (3, .int (nI i))]) (hV : q_V A) (hC : rC A w) (hM : rM A w) (h2 : A 0 2 < 1000000) (hP : va_P (dC, dI) ex_cl (ex_cel ad cI cB w) H) (hS : va_S (ex_AA ad s.heap.size) s.heap H locs) (kk : lx_K p l e s m args below meth c Q dC dI ad cI cB A ls) : W p l e room_1 s m args below meth c H locs 71 1804 Q (F0 m 172 ls []) := by
  obtain ⟨hx, hb, hml, hown, hts, hCx, hIn, hX, hbl, hbA, hL⟩ := id C
  refine lv_aload_n hx hb dl_172 rfl (lv_at hl 1 rfl) ?_
  refine lx_arg C dg_173 (by decide) (by omega) rfl hl hS ?_
  refine lv_i2l hx hb dl_178 rfl ?_
  refine lv_bipush (v := 32) hx hb dl_179 (by decide) ?_
  refine lv_lshl hx hb dl_181 rfl ?_
  refine lx_arg C dg_182 (by decide) (by omega) rfl hl hS ?_
  refine lv_i2l hx hb dl_187 rfl ?_
  refine lv_ldc2 hx hb hown (hts _ lt_long) dl_188 ?_
  refine lv_land hx hb dl_191 ?_
  refine lv_lor hx hb dl_192 ?_
  refine lv_topl (fun g eg => ?_)
  obtain ⟨r, A', hV', hc, hm, hle⟩ := g_letters hV (x := g)
  obtain ⟨w1, hc1, rc1, f1⟩ := hc 0 w hC
  obtain ⟨w2, hm2, rm2, f2⟩ := hm 0 w1 (rM_f hM f1)
  obtain ⟨x, hxr⟩ := (ex_cal_3 hc1).1 kr_99
  cases hxr
  refine lx_call C (as := [.long g]) (o := 0) (rest := []) (r := .int x) (by decide) lw_c15 (by decide +kernel) hc1 dl_193 hl.1 (Nat.le_of_ble_eq_true rfl) hP hS (fun H locs hP hS => ?_)
  refine lv_aload_n hx hb dl_196 rfl (lv_at hl 2 rfl) ?_
  refine lx_arg C dg_197 (by decide) (by omega) rfl hl hS ?_
  refine lv_i2l hx hb dl_202 rfl ?_
  refine lv_bipush (v := 32) hx hb dl_203 (by decide) ?_
  refine lv_lshl hx hb dl_205 rfl ?_
  refine lx_arg C dg_206 (by decide) (by omega) rfl hl hS ?_
  refine lv_i2l hx hb dl_211 rfl ?_
  refine lv_ldc2 hx hb hown (hts _ lt_long) dl_212 ?_
  refine lv_land hx hb dl_215 ?_
  refine lv_lor hx hb dl_216 ?_
  refine lv_topl (fun g2 eg2 => ?_)
  have eg3 : g2 = g := eg2.trans eg.symm
  subst eg3
  refine lx_call C (as := [.long g2]) (o := 46) (rest := [.int x]) (r := .int x) (by decide) lw_c19 (by decide +kernel) hm2 dl_217 hl.1 (Nat.le_of_ble_eq_true rfl) hP hS (fun H locs hP hS => ?_)
  refine lv_icmp_eq (tgt := 1166) hx hb dl_220 (by decide) (fun _ => ?_) (fun h => absurd rfl h)
  exact kk A' w2 H locs hV' (rC_f rc1 f2) rm2 hle hP hS
set_option maxHeartbeats 4000000 in
set_option maxRecDepth 100000 in
theorem lx_c1 (C : lx_Fix p l e s m args below meth c b L xs dC dI ad cI cB) {i : Nat} {A : AS} {w : PW} {H : Heap} {locs : List Loc} {ls : Array Slot} (hi : i + 6 ≤ L) (hl : lv_has ls 4 [(0, .ref b), (1, .ref (ad 0)), (2, .ref (ad 46)), (3, .int (nI i))]) (hV : q_V A) (hC : rC A w) (hM : rM A w) (h2 : A 0 2 < 1000000) (hP : va_P (dC, dI) ex_cl (ex_cel ad cI cB w) H) (hS : va_S (ex_AA ad s.heap.size) s.heap H locs) (kk : lx_K p l e s m args below meth c Q dC dI ad cI cB A ls) : W p l e room_1 s m args below meth c H locs 71 1804 Q (F0 m 225 ls []) := by
  obtain ⟨hx, hb, hml, hown, hts, hCx, hIn, hX, hbl, hbA, hL⟩ := id C
  obtain ⟨r, A', hV', hc, hm, hle⟩ := g_blank hV 
  obtain ⟨w1, hc1, rc1, f1⟩ := hc 0 w hC
  obtain ⟨w2, hm2, rm2, f2⟩ := hm 0 w1 (rM_f hM f1)
  obtain ⟨x, hxr⟩ := (ex_cal_3 hc1).1 kr_100
  cases hxr
  refine lv_aload_n hx hb dl_225 rfl (lv_at hl 1 rfl) ?_
  refine lx_call C (as := []) (o := 0) (rest := []) (r := .int x) (by decide) lw_c20 (by decide +kernel) hc1 dl_226 hl.1 (Nat.le_of_ble_eq_true rfl) hP hS (fun H locs hP hS => ?_)
  refine lv_aload_n hx hb dl_229 rfl (lv_at hl 2 rfl) ?_
  refine lx_call C (as := []) (o := 46) (rest := [.int x]) (r := .int x) (by decide) lw_c24 (by decide +kernel) hm2 dl_230 hl.1 (Nat.le_of_ble_eq_true rfl) hP hS (fun H locs hP hS => ?_)
  refine lv_icmp_eq (tgt := 1166) hx hb dl_233 (by decide) (fun _ => ?_) (fun h => absurd rfl h)
  exact kk A' w2 H locs hV' (rC_f rc1 f2) rm2 hle hP hS
set_option maxHeartbeats 4000000 in
set_option maxRecDepth 100000 in
theorem lx_c2 (C : lx_Fix p l e s m args below meth c b L xs dC dI ad cI cB) {i : Nat} {A : AS} {w : PW} {H : Heap} {locs : List Loc} {ls : Array Slot} (hi : i + 6 ≤ L) (hl : lv_has ls 4 [(0, .ref b), (1, .ref (ad 0)), (2, .ref (ad 46)), (3, .int (nI i))]) (hV : q_V A) (hC : rC A w) (hM : rM A w) (h2 : A 0 2 < 1000000) (hP : va_P (dC, dI) ex_cl (ex_cel ad cI cB w) H) (hS : va_S (ex_AA ad s.heap.size) s.heap H locs) (kk : lx_K p l e s m args below meth c Q dC dI ad cI cB A ls) : W p l e room_1 s m args below meth c H locs 71 1804 Q (F0 m 238 ls []) := by
  obtain ⟨hx, hb, hml, hown, hts, hCx, hIn, hX, hbl, hbA, hL⟩ := id C
  obtain ⟨z1, z10, z11, e1⟩ := z_of (xs (i + 1))
  obtain ⟨r, A', hV', hc, hm, hle⟩ := g_fault hV z10 z11
  obtain ⟨w1, hc1, rc1, f1⟩ := hc 0 w hC
  obtain ⟨w2, hm2, rm2, f2⟩ := hm 0 w1 (rM_f hM f1)
  obtain ⟨x, hxr⟩ := (ex_cal_3 hc1).1 kr_101
  cases hxr
  refine lv_aload_n hx hb dl_238 rfl (lv_at hl 1 rfl) ?_
  refine lx_arg C dg_239 (by decide) (by omega) e1 hl hS ?_
  refine lx_call C (as := [.int (Int32.ofInt z1)]) (o := 0) (rest := []) (r := .int x) (by decide) lw_c25 (by decide +kernel) hc1 dl_244 hl.1 (Nat.le_of_ble_eq_true rfl) hP hS (fun H locs hP hS => ?_)
  refine lv_aload_n hx hb dl_247 rfl (lv_at hl 2 rfl) ?_
  refine lx_arg C dg_248 (by decide) (by omega) e1 hl hS ?_
  refine lx_call C (as := [.int (Int32.ofInt z1)]) (o := 46) (rest := [.int x]) (r := .int x) (by decide) lw_c29 (by decide +kernel) hm2 dl_253 hl.1 (Nat.le_of_ble_eq_true rfl) hP hS (fun H locs hP hS => ?_)
  refine lv_icmp_eq (tgt := 1166) hx hb dl_256 (by decide) (fun _ => ?_) (fun h => absurd rfl h)
  exact kk A' w2 H locs hV' (rC_f rc1 f2) rm2 hle hP hS
set_option maxHeartbeats 4000000 in
set_option maxRecDepth 100000 in
theorem lx_c3 (C : lx_Fix p l e s m args below meth c b L xs dC dI ad cI cB) {i : Nat} {A : AS} {w : PW} {H : Heap} {locs : List Loc} {ls : Array Slot} (hi : i + 6 ≤ L) (hl : lv_has ls 4 [(0, .ref b), (1, .ref (ad 0)), (2, .ref (ad 46)), (3, .int (nI i))]) (hV : q_V A) (hC : rC A w) (hM : rM A w) (h2 : A 0 2 < 1000000) (hP : va_P (dC, dI) ex_cl (ex_cel ad cI cB w) H) (hS : va_S (ex_AA ad s.heap.size) s.heap H locs) (kk : lx_K p l e s m args below meth c Q dC dI ad cI cB A ls) : W p l e room_1 s m args below meth c H locs 71 1804 Q (F0 m 261 ls []) := by
  obtain ⟨hx, hb, hml, hown, hts, hCx, hIn, hX, hbl, hbA, hL⟩ := id C
  obtain ⟨r, A', hV', hc, hm, hle⟩ := g_house hV  h2
  obtain ⟨w1, hc1, rc1, f1⟩ := hc 0 w hC
  obtain ⟨w2, hm2, rm2, f2⟩ := hm 0 w1 (rM_f hM f1)
  obtain ⟨x, hxr⟩ := (ex_cal_3 hc1).1 kr_102
  cases hxr
  refine lv_aload_n hx hb dl_261 rfl (lv_at hl 1 rfl) ?_
  refine lx_call C (as := []) (o := 0) (rest := []) (r := .int x) (by decide) lw_c30 (by decide +kernel) hc1 dl_262 hl.1 (Nat.le_of_ble_eq_true rfl) hP hS (fun H locs hP hS => ?_)
  refine lv_aload_n hx hb dl_265 rfl (lv_at hl 2 rfl) ?_
  refine lx_call C (as := []) (o := 46) (rest := [.int x]) (r := .int x) (by decide) lw_c33 (by decide +kernel) hm2 dl_266 hl.1 (Nat.le_of_ble_eq_true rfl) hP hS (fun H locs hP hS => ?_)
  refine lv_icmp_eq (tgt := 1166) hx hb dl_269 (by decide) (fun _ => ?_) (fun h => absurd rfl h)
  exact kk A' w2 H locs hV' (rC_f rc1 f2) rm2 hle hP hS
set_option maxHeartbeats 4000000 in
set_option maxRecDepth 100000 in
theorem lx_c4 (C : lx_Fix p l e s m args below meth c b L xs dC dI ad cI cB) {i : Nat} {A : AS} {w : PW} {H : Heap} {locs : List Loc} {ls : Array Slot} (hi : i + 6 ≤ L) (hl : lv_has ls 4 [(0, .ref b), (1, .ref (ad 0)), (2, .ref (ad 46)), (3, .int (nI i))]) (hV : q_V A) (hC : rC A w) (hM : rM A w) (h2 : A 0 2 < 1000000) (hP : va_P (dC, dI) ex_cl (ex_cel ad cI cB w) H) (hS : va_S (ex_AA ad s.heap.size) s.heap H locs) (kk : lx_K p l e s m args below meth c Q dC dI ad cI cB A ls) : W p l e room_1 s m args below meth c H locs 71 1804 Q (F0 m 274 ls []) := by
  obtain ⟨hx, hb, hml, hown, hts, hCx, hIn, hX, hbl, hbA, hL⟩ := id C
  obtain ⟨r, A', hV', hc, hm, hle⟩ := g_law hV 
  obtain ⟨w1, hc1, rc1, f1⟩ := hc 0 w hC
  obtain ⟨w2, hm2, rm2, f2⟩ := hm 0 w1 (rM_f hM f1)
  obtain ⟨x, hxr⟩ := (ex_cal_3 hc1).1 kr_103
  cases hxr
  refine lv_aload_n hx hb dl_274 rfl (lv_at hl 1 rfl) ?_
  refine lx_call C (as := []) (o := 0) (rest := []) (r := .int x) (by decide) lw_c34 (by decide +kernel) hc1 dl_275 hl.1 (Nat.le_of_ble_eq_true rfl) hP hS (fun H locs hP hS => ?_)
  refine lv_aload_n hx hb dl_278 rfl (lv_at hl 2 rfl) ?_
  refine lx_call C (as := []) (o := 46) (rest := [.int x]) (r := .int x) (by decide) lw_c37 (by decide +kernel) hm2 dl_279 hl.1 (Nat.le_of_ble_eq_true rfl) hP hS (fun H locs hP hS => ?_)
  refine lv_icmp_eq (tgt := 1166) hx hb dl_282 (by decide) (fun _ => ?_) (fun h => absurd rfl h)
  exact kk A' w2 H locs hV' (rC_f rc1 f2) rm2 hle hP hS
set_option maxHeartbeats 4000000 in
set_option maxRecDepth 100000 in
theorem lx_c5 (C : lx_Fix p l e s m args below meth c b L xs dC dI ad cI cB) {i : Nat} {A : AS} {w : PW} {H : Heap} {locs : List Loc} {ls : Array Slot} (hi : i + 6 ≤ L) (hl : lv_has ls 4 [(0, .ref b), (1, .ref (ad 0)), (2, .ref (ad 46)), (3, .int (nI i))]) (hV : q_V A) (hC : rC A w) (hM : rM A w) (h2 : A 0 2 < 1000000) (hP : va_P (dC, dI) ex_cl (ex_cel ad cI cB w) H) (hS : va_S (ex_AA ad s.heap.size) s.heap H locs) (kk : lx_K p l e s m args below meth c Q dC dI ad cI cB A ls) : W p l e room_1 s m args below meth c H locs 71 1804 Q (F0 m 287 ls []) := by
  obtain ⟨hx, hb, hml, hown, hts, hCx, hIn, hX, hbl, hbA, hL⟩ := id C
  obtain ⟨z1, z10, z11, e1⟩ := z_of (xs (i + 1))
  obtain ⟨z2, z20, z21, e2⟩ := z_of (xs (i + 2))
  obtain ⟨r, A', hV', hc, hm, hle⟩ := g_lawTold hV z10 z11 z20 z21
  obtain ⟨w1, hc1, rc1, f1⟩ := hc 0 w hC
  obtain ⟨w2, hm2, rm2, f2⟩ := hm 0 w1 (rM_f hM f1)
  obtain ⟨x, hxr⟩ := (ex_cal_3 hc1).1 kr_104
  cases hxr
  refine lv_aload_n hx hb dl_287 rfl (lv_at hl 1 rfl) ?_
  refine lx_arg C dg_288 (by decide) (by omega) e1 hl hS ?_
  refine lx_arg C dg_293 (by decide) (by omega) e2 hl hS ?_
  refine lx_call C (as := [.int (Int32.ofInt z1), .int (Int32.ofInt z2)]) (o := 0) (rest := []) (r := .int x) (by decide) lw_c38 (by decide +kernel) hc1 dl_298 hl.1 (Nat.le_of_ble_eq_true rfl) hP hS (fun H locs hP hS => ?_)
  refine lv_aload_n hx hb dl_301 rfl (lv_at hl 2 rfl) ?_
  refine lx_arg C dg_302 (by decide) (by omega) e1 hl hS ?_
  refine lx_arg C dg_307 (by decide) (by omega) e2 hl hS ?_
  refine lx_call C (as := [.int (Int32.ofInt z1), .int (Int32.ofInt z2)]) (o := 46) (rest := [.int x]) (r := .int x) (by decide) lw_c42 (by decide +kernel) hm2 dl_312 hl.1 (Nat.le_of_ble_eq_true rfl) hP hS (fun H locs hP hS => ?_)
  refine lv_icmp_eq (tgt := 1166) hx hb dl_315 (by decide) (fun _ => ?_) (fun h => absurd rfl h)
  exact kk A' w2 H locs hV' (rC_f rc1 f2) rm2 hle hP hS
set_option maxHeartbeats 4000000 in
set_option maxRecDepth 100000 in
theorem lx_c6 (C : lx_Fix p l e s m args below meth c b L xs dC dI ad cI cB) {i : Nat} {A : AS} {w : PW} {H : Heap} {locs : List Loc} {ls : Array Slot} (hi : i + 6 ≤ L) (hl : lv_has ls 4 [(0, .ref b), (1, .ref (ad 0)), (2, .ref (ad 46)), (3, .int (nI i))]) (hV : q_V A) (hC : rC A w) (hM : rM A w) (h2 : A 0 2 < 1000000) (hP : va_P (dC, dI) ex_cl (ex_cel ad cI cB w) H) (hS : va_S (ex_AA ad s.heap.size) s.heap H locs) (kk : lx_K p l e s m args below meth c Q dC dI ad cI cB A ls) : W p l e room_1 s m args below meth c H locs 71 1804 Q (F0 m 320 ls []) := by
  obtain ⟨hx, hb, hml, hown, hts, hCx, hIn, hX, hbl, hbA, hL⟩ := id C
  obtain ⟨z1, z10, z11, e1⟩ := z_of (xs (i + 1))
  obtain ⟨z2, z20, z21, e2⟩ := z_of (xs (i + 2))
  obtain ⟨r, A', hV', hc, hm, hle⟩ := g_asLaw hV z10 z11 z20 z21
  obtain ⟨w1, hc1, rc1, f1⟩ := hc 0 w hC
  obtain ⟨w2, hm2, rm2, f2⟩ := hm 0 w1 (rM_f hM f1)
  obtain ⟨x, hxr⟩ := (ex_cal_3 hc1).1 kr_105
  cases hxr
  refine lv_aload_n hx hb dl_320 rfl (lv_at hl 1 rfl) ?_
  refine lx_arg C dg_321 (by decide) (by omega) e1 hl hS ?_
  refine lx_arg C dg_326 (by decide) (by omega) e2 hl hS ?_
  refine lx_call C (as := [.int (Int32.ofInt z1), .int (Int32.ofInt z2)]) (o := 0) (rest := []) (r := .int x) (by decide) lw_c43 (by decide +kernel) hc1 dl_331 hl.1 (Nat.le_of_ble_eq_true rfl) hP hS (fun H locs hP hS => ?_)
  refine lv_aload_n hx hb dl_334 rfl (lv_at hl 2 rfl) ?_
  refine lx_arg C dg_335 (by decide) (by omega) e1 hl hS ?_
  refine lx_arg C dg_340 (by decide) (by omega) e2 hl hS ?_
  refine lx_call C (as := [.int (Int32.ofInt z1), .int (Int32.ofInt z2)]) (o := 46) (rest := [.int x]) (r := .int x) (by decide) lw_c46 (by decide +kernel) hm2 dl_345 hl.1 (Nat.le_of_ble_eq_true rfl) hP hS (fun H locs hP hS => ?_)
  refine lv_icmp_eq (tgt := 1166) hx hb dl_348 (by decide) (fun _ => ?_) (fun h => absurd rfl h)
  exact kk A' w2 H locs hV' (rC_f rc1 f2) rm2 hle hP hS
set_option maxHeartbeats 4000000 in
set_option maxRecDepth 100000 in
theorem lx_c7 (C : lx_Fix p l e s m args below meth c b L xs dC dI ad cI cB) {i : Nat} {A : AS} {w : PW} {H : Heap} {locs : List Loc} {ls : Array Slot} (hi : i + 6 ≤ L) (hl : lv_has ls 4 [(0, .ref b), (1, .ref (ad 0)), (2, .ref (ad 46)), (3, .int (nI i))]) (hV : q_V A) (hC : rC A w) (hM : rM A w) (h2 : A 0 2 < 1000000) (hP : va_P (dC, dI) ex_cl (ex_cel ad cI cB w) H) (hS : va_S (ex_AA ad s.heap.size) s.heap H locs) (kk : lx_K p l e s m args below meth c Q dC dI ad cI cB A ls) : W p l e room_1 s m args below meth c H locs 71 1804 Q (F0 m 353 ls []) := by
  obtain ⟨hx, hb, hml, hown, hts, hCx, hIn, hX, hbl, hbA, hL⟩ := id C
  obtain ⟨z1, z10, z11, e1⟩ := z_of (xs (i + 1))
  obtain ⟨z2, z20, z21, e2⟩ := z_of (xs (i + 2))
  obtain ⟨r, A', hV', hc, hm, hle⟩ := g_cell hV z10 z11 z20 z21
  obtain ⟨w1, hc1, rc1, f1⟩ := hc 0 w hC
  obtain ⟨w2, hm2, rm2, f2⟩ := hm 0 w1 (rM_f hM f1)
  obtain ⟨x, hxr⟩ := (ex_cal_3 hc1).1 kr_106
  cases hxr
  refine lv_aload_n hx hb dl_353 rfl (lv_at hl 1 rfl) ?_
  refine lx_arg C dg_354 (by decide) (by omega) e1 hl hS ?_
  refine lx_arg C dg_359 (by decide) (by omega) e2 hl hS ?_
  refine lx_call C (as := [.int (Int32.ofInt z1), .int (Int32.ofInt z2)]) (o := 0) (rest := []) (r := .int x) (by decide) lw_c47 (by decide +kernel) hc1 dl_364 hl.1 (Nat.le_of_ble_eq_true rfl) hP hS (fun H locs hP hS => ?_)
  refine lv_aload_n hx hb dl_367 rfl (lv_at hl 2 rfl) ?_
  refine lx_arg C dg_368 (by decide) (by omega) e1 hl hS ?_
  refine lx_arg C dg_373 (by decide) (by omega) e2 hl hS ?_
  refine lx_call C (as := [.int (Int32.ofInt z1), .int (Int32.ofInt z2)]) (o := 46) (rest := [.int x]) (r := .int x) (by decide) lw_c50 (by decide +kernel) hm2 dl_378 hl.1 (Nat.le_of_ble_eq_true rfl) hP hS (fun H locs hP hS => ?_)
  refine lv_icmp_eq (tgt := 1166) hx hb dl_381 (by decide) (fun _ => ?_) (fun h => absurd rfl h)
  exact kk A' w2 H locs hV' (rC_f rc1 f2) rm2 hle hP hS
set_option maxHeartbeats 4000000 in
set_option maxRecDepth 100000 in
theorem lx_c8 (C : lx_Fix p l e s m args below meth c b L xs dC dI ad cI cB) {i : Nat} {A : AS} {w : PW} {H : Heap} {locs : List Loc} {ls : Array Slot} (hi : i + 6 ≤ L) (hl : lv_has ls 4 [(0, .ref b), (1, .ref (ad 0)), (2, .ref (ad 46)), (3, .int (nI i))]) (hV : q_V A) (hC : rC A w) (hM : rM A w) (h2 : A 0 2 < 1000000) (hP : va_P (dC, dI) ex_cl (ex_cel ad cI cB w) H) (hS : va_S (ex_AA ad s.heap.size) s.heap H locs) (kk : lx_K p l e s m args below meth c Q dC dI ad cI cB A ls) : W p l e room_1 s m args below meth c H locs 71 1804 Q (F0 m 386 ls []) := by
  obtain ⟨hx, hb, hml, hown, hts, hCx, hIn, hX, hbl, hbA, hL⟩ := id C
  obtain ⟨z1, z10, z11, e1⟩ := z_of (xs (i + 1))
  obtain ⟨z2, z20, z21, e2⟩ := z_of (xs (i + 2))
  obtain ⟨z3, z30, z31, e3⟩ := z_of (xs (i + 3))
  obtain ⟨z4, z40, z41, e4⟩ := z_of (xs (i + 4))
  obtain ⟨r, A', hV', hc, hm, hle⟩ := g_part hV z10 z11 z20 z21 z30 z31 z40 z41
  obtain ⟨w1, hc1, rc1, f1⟩ := hc 0 w hC
  obtain ⟨w2, hm2, rm2, f2⟩ := hm 0 w1 (rM_f hM f1)
  obtain ⟨x, hxr⟩ := (ex_cal_3 hc1).1 kr_107
  cases hxr
  refine lv_aload_n hx hb dl_386 rfl (lv_at hl 1 rfl) ?_
  refine lx_arg C dg_387 (by decide) (by omega) e1 hl hS ?_
  refine lx_arg C dg_392 (by decide) (by omega) e2 hl hS ?_
  refine lx_arg C dg_397 (by decide) (by omega) e3 hl hS ?_
  refine lx_arg C dg_402 (by decide) (by omega) e4 hl hS ?_
  refine lx_call C (as := [.int (Int32.ofInt z1), .int (Int32.ofInt z2), .int (Int32.ofInt z3), .int (Int32.ofInt z4)]) (o := 0) (rest := []) (r := .int x) (by decide) lw_c51 (by decide +kernel) hc1 dl_407 hl.1 (Nat.le_of_ble_eq_true rfl) hP hS (fun H locs hP hS => ?_)
  refine lv_aload_n hx hb dl_410 rfl (lv_at hl 2 rfl) ?_
  refine lx_arg C dg_411 (by decide) (by omega) e1 hl hS ?_
  refine lx_arg C dg_416 (by decide) (by omega) e2 hl hS ?_
  refine lx_arg C dg_421 (by decide) (by omega) e3 hl hS ?_
  refine lx_arg C dg_426 (by decide) (by omega) e4 hl hS ?_
  refine lx_call C (as := [.int (Int32.ofInt z1), .int (Int32.ofInt z2), .int (Int32.ofInt z3), .int (Int32.ofInt z4)]) (o := 46) (rest := [.int x]) (r := .int x) (by decide) lw_c55 (by decide +kernel) hm2 dl_431 hl.1 (Nat.le_of_ble_eq_true rfl) hP hS (fun H locs hP hS => ?_)
  refine lv_icmp_eq (tgt := 1166) hx hb dl_434 (by decide) (fun _ => ?_) (fun h => absurd rfl h)
  exact kk A' w2 H locs hV' (rC_f rc1 f2) rm2 hle hP hS
set_option maxHeartbeats 4000000 in
set_option maxRecDepth 100000 in
theorem lx_c9 (C : lx_Fix p l e s m args below meth c b L xs dC dI ad cI cB) {i : Nat} {A : AS} {w : PW} {H : Heap} {locs : List Loc} {ls : Array Slot} (hi : i + 6 ≤ L) (hl : lv_has ls 4 [(0, .ref b), (1, .ref (ad 0)), (2, .ref (ad 46)), (3, .int (nI i))]) (hV : q_V A) (hC : rC A w) (hM : rM A w) (h2 : A 0 2 < 1000000) (hP : va_P (dC, dI) ex_cl (ex_cel ad cI cB w) H) (hS : va_S (ex_AA ad s.heap.size) s.heap H locs) (kk : lx_K p l e s m args below meth c Q dC dI ad cI cB A ls) : W p l e room_1 s m args below meth c H locs 71 1804 Q (F0 m 439 ls []) := by
  obtain ⟨hx, hb, hml, hown, hts, hCx, hIn, hX, hbl, hbA, hL⟩ := id C
  obtain ⟨z1, z10, z11, e1⟩ := z_of (xs (i + 1))
  obtain ⟨z2, z20, z21, e2⟩ := z_of (xs (i + 2))
  obtain ⟨z3, z30, z31, e3⟩ := z_of (xs (i + 3))
  obtain ⟨z4, z40, z41, e4⟩ := z_of (xs (i + 4))
  obtain ⟨z5, z50, z51, e5⟩ := z_of (xs (i + 5))
  obtain ⟨r, A', hV', hc, hm, hle⟩ := g_against hV z10 z11 z20 z21 z30 z31 z40 z41 z50 z51
  obtain ⟨w1, hc1, rc1, f1⟩ := hc 0 w hC
  obtain ⟨w2, hm2, rm2, f2⟩ := hm 0 w1 (rM_f hM f1)
  obtain ⟨x, hxr⟩ := (ex_cal_3 hc1).1 kr_108
  cases hxr
  refine lv_aload_n hx hb dl_439 rfl (lv_at hl 1 rfl) ?_
  refine lx_arg C dg_440 (by decide) (by omega) e1 hl hS ?_
  refine lx_arg C dg_445 (by decide) (by omega) e2 hl hS ?_
  refine lx_arg C dg_450 (by decide) (by omega) e3 hl hS ?_
  refine lx_arg C dg_455 (by decide) (by omega) e4 hl hS ?_
  refine lx_arg C dg_460 (by decide) (by omega) e5 hl hS ?_
  refine lx_call C (as := [.int (Int32.ofInt z1), .int (Int32.ofInt z2), .int (Int32.ofInt z3), .int (Int32.ofInt z4), .int (Int32.ofInt z5)]) (o := 0) (rest := []) (r := .int x) (by decide) lw_c56 (by decide +kernel) hc1 dl_465 hl.1 (Nat.le_of_ble_eq_true rfl) hP hS (fun H locs hP hS => ?_)
  refine lv_aload_n hx hb dl_468 rfl (lv_at hl 2 rfl) ?_
  refine lx_arg C dg_469 (by decide) (by omega) e1 hl hS ?_
  refine lx_arg C dg_474 (by decide) (by omega) e2 hl hS ?_
  refine lx_arg C dg_479 (by decide) (by omega) e3 hl hS ?_
  refine lx_arg C dg_484 (by decide) (by omega) e4 hl hS ?_
  refine lx_arg C dg_489 (by decide) (by omega) e5 hl hS ?_
  refine lx_call C (as := [.int (Int32.ofInt z1), .int (Int32.ofInt z2), .int (Int32.ofInt z3), .int (Int32.ofInt z4), .int (Int32.ofInt z5)]) (o := 46) (rest := [.int x]) (r := .int x) (by decide) lw_c60 (by decide +kernel) hm2 dl_494 hl.1 (Nat.le_of_ble_eq_true rfl) hP hS (fun H locs hP hS => ?_)
  refine lv_icmp_eq (tgt := 1166) hx hb dl_497 (by decide) (fun _ => ?_) (fun h => absurd rfl h)
  exact kk A' w2 H locs hV' (rC_f rc1 f2) rm2 hle hP hS
set_option maxHeartbeats 4000000 in
set_option maxRecDepth 100000 in
theorem lx_c10 (C : lx_Fix p l e s m args below meth c b L xs dC dI ad cI cB) {i : Nat} {A : AS} {w : PW} {H : Heap} {locs : List Loc} {ls : Array Slot} (hi : i + 6 ≤ L) (hl : lv_has ls 4 [(0, .ref b), (1, .ref (ad 0)), (2, .ref (ad 46)), (3, .int (nI i))]) (hV : q_V A) (hC : rC A w) (hM : rM A w) (h2 : A 0 2 < 1000000) (hP : va_P (dC, dI) ex_cl (ex_cel ad cI cB w) H) (hS : va_S (ex_AA ad s.heap.size) s.heap H locs) (kk : lx_K p l e s m args below meth c Q dC dI ad cI cB A ls) : W p l e room_1 s m args below meth c H locs 71 1804 Q (F0 m 502 ls []) := by
  obtain ⟨hx, hb, hml, hown, hts, hCx, hIn, hX, hbl, hbA, hL⟩ := id C
  obtain ⟨z1, z10, z11, e1⟩ := z_of (xs (i + 1))
  obtain ⟨z2, z20, z21, e2⟩ := z_of (xs (i + 2))
  obtain ⟨z3, z30, z31, e3⟩ := z_of (xs (i + 3))
  obtain ⟨z4, z40, z41, e4⟩ := z_of (xs (i + 4))
  obtain ⟨z5, z50, z51, e5⟩ := z_of (xs (i + 5))
  obtain ⟨r, A', hV', hc, hm, hle⟩ := g_event hV z10 z11 z20 z21 z30 z31 z40 z41 z50 z51
  obtain ⟨w1, hc1, rc1, f1⟩ := hc 0 w hC
  obtain ⟨w2, hm2, rm2, f2⟩ := hm 0 w1 (rM_f hM f1)
  obtain ⟨x, hxr⟩ := (ex_cal_3 hc1).1 kr_109
  cases hxr
  refine lv_aload_n hx hb dl_502 rfl (lv_at hl 1 rfl) ?_
  refine lx_arg C dg_503 (by decide) (by omega) e1 hl hS ?_
  refine lx_arg C dg_508 (by decide) (by omega) e2 hl hS ?_
  refine lx_arg C dg_513 (by decide) (by omega) e3 hl hS ?_
  refine lx_arg C dg_518 (by decide) (by omega) e4 hl hS ?_
  refine lx_arg C dg_523 (by decide) (by omega) e5 hl hS ?_
  refine lx_call C (as := [.int (Int32.ofInt z1), .int (Int32.ofInt z2), .int (Int32.ofInt z3), .int (Int32.ofInt z4), .int (Int32.ofInt z5)]) (o := 0) (rest := []) (r := .int x) (by decide) lw_c61 (by decide +kernel) hc1 dl_528 hl.1 (Nat.le_of_ble_eq_true rfl) hP hS (fun H locs hP hS => ?_)
  refine lv_aload_n hx hb dl_531 rfl (lv_at hl 2 rfl) ?_
  refine lx_arg C dg_532 (by decide) (by omega) e1 hl hS ?_
  refine lx_arg C dg_537 (by decide) (by omega) e2 hl hS ?_
  refine lx_arg C dg_542 (by decide) (by omega) e3 hl hS ?_
  refine lx_arg C dg_547 (by decide) (by omega) e4 hl hS ?_
  refine lx_arg C dg_552 (by decide) (by omega) e5 hl hS ?_
  refine lx_call C (as := [.int (Int32.ofInt z1), .int (Int32.ofInt z2), .int (Int32.ofInt z3), .int (Int32.ofInt z4), .int (Int32.ofInt z5)]) (o := 46) (rest := [.int x]) (r := .int x) (by decide) lw_c64 (by decide +kernel) hm2 dl_557 hl.1 (Nat.le_of_ble_eq_true rfl) hP hS (fun H locs hP hS => ?_)
  refine lv_icmp_eq (tgt := 1166) hx hb dl_560 (by decide) (fun _ => ?_) (fun h => absurd rfl h)
  exact kk A' w2 H locs hV' (rC_f rc1 f2) rm2 hle hP hS
set_option maxHeartbeats 4000000 in
set_option maxRecDepth 100000 in
theorem lx_c11 (C : lx_Fix p l e s m args below meth c b L xs dC dI ad cI cB) {i : Nat} {A : AS} {w : PW} {H : Heap} {locs : List Loc} {ls : Array Slot} (hi : i + 6 ≤ L) (hl : lv_has ls 4 [(0, .ref b), (1, .ref (ad 0)), (2, .ref (ad 46)), (3, .int (nI i))]) (hV : q_V A) (hC : rC A w) (hM : rM A w) (h2 : A 0 2 < 1000000) (hP : va_P (dC, dI) ex_cl (ex_cel ad cI cB w) H) (hS : va_S (ex_AA ad s.heap.size) s.heap H locs) (kk : lx_K p l e s m args below meth c Q dC dI ad cI cB A ls) : W p l e room_1 s m args below meth c H locs 71 1804 Q (F0 m 565 ls []) := by
  obtain ⟨hx, hb, hml, hown, hts, hCx, hIn, hX, hbl, hbA, hL⟩ := id C
  obtain ⟨z1, z10, z11, e1⟩ := z_of (xs (i + 1))
  obtain ⟨r, A', hV', hc, hm, hle⟩ := g_first hV z10 z11
  obtain ⟨w1, hc1, rc1, f1⟩ := hc 0 w hC
  obtain ⟨w2, hm2, rm2, f2⟩ := hm 0 w1 (rM_f hM f1)
  obtain ⟨x, hxr⟩ := (ex_cal_3 hc1).1 kr_110
  cases hxr
  refine lv_aload_n hx hb dl_565 rfl (lv_at hl 1 rfl) ?_
  refine lx_arg C dg_566 (by decide) (by omega) e1 hl hS ?_
  refine lx_call C (as := [.int (Int32.ofInt z1)]) (o := 0) (rest := []) (r := .int x) (by decide) lw_c65 (by decide +kernel) hc1 dl_571 hl.1 (Nat.le_of_ble_eq_true rfl) hP hS (fun H locs hP hS => ?_)
  refine lv_aload_n hx hb dl_574 rfl (lv_at hl 2 rfl) ?_
  refine lx_arg C dg_575 (by decide) (by omega) e1 hl hS ?_
  refine lx_call C (as := [.int (Int32.ofInt z1)]) (o := 46) (rest := [.int x]) (r := .int x) (by decide) lw_c68 (by decide +kernel) hm2 dl_580 hl.1 (Nat.le_of_ble_eq_true rfl) hP hS (fun H locs hP hS => ?_)
  refine lv_icmp_eq (tgt := 1166) hx hb dl_583 (by decide) (fun _ => ?_) (fun h => absurd rfl h)
  exact kk A' w2 H locs hV' (rC_f rc1 f2) rm2 hle hP hS
set_option maxHeartbeats 4000000 in
set_option maxRecDepth 100000 in
theorem lx_c12 (C : lx_Fix p l e s m args below meth c b L xs dC dI ad cI cB) {i : Nat} {A : AS} {w : PW} {H : Heap} {locs : List Loc} {ls : Array Slot} (hi : i + 6 ≤ L) (hl : lv_has ls 4 [(0, .ref b), (1, .ref (ad 0)), (2, .ref (ad 46)), (3, .int (nI i))]) (hV : q_V A) (hC : rC A w) (hM : rM A w) (h2 : A 0 2 < 1000000) (hP : va_P (dC, dI) ex_cl (ex_cel ad cI cB w) H) (hS : va_S (ex_AA ad s.heap.size) s.heap H locs) (kk : lx_K p l e s m args below meth c Q dC dI ad cI cB A ls) : W p l e room_1 s m args below meth c H locs 71 1804 Q (F0 m 588 ls []) := by
  obtain ⟨hx, hb, hml, hown, hts, hCx, hIn, hX, hbl, hbA, hL⟩ := id C
  obtain ⟨z1, z10, z11, e1⟩ := z_of (xs (i + 1))
  obtain ⟨z2, z20, z21, e2⟩ := z_of (xs (i + 2))
  obtain ⟨z3, z30, z31, e3⟩ := z_of (xs (i + 3))
  obtain ⟨z4, z40, z41, e4⟩ := z_of (xs (i + 4))
  obtain ⟨r, A', hV', hc, hm, hle⟩ := g_map hV z10 z11 z20 z21 z30 z31 z40 z41
  obtain ⟨w1, hc1, rc1, f1⟩ := hc 0 w hC
  obtain ⟨w2, hm2, rm2, f2⟩ := hm 0 w1 (rM_f hM f1)
  obtain ⟨x, hxr⟩ := (ex_cal_3 hc1).1 kr_111
  cases hxr
  refine lv_aload_n hx hb dl_588 rfl (lv_at hl 1 rfl) ?_
  refine lx_arg C dg_589 (by decide) (by omega) e1 hl hS ?_
  refine lx_arg C dg_594 (by decide) (by omega) e2 hl hS ?_
  refine lx_arg C dg_599 (by decide) (by omega) e3 hl hS ?_
  refine lx_arg C dg_604 (by decide) (by omega) e4 hl hS ?_
  refine lx_call C (as := [.int (Int32.ofInt z1), .int (Int32.ofInt z2), .int (Int32.ofInt z3), .int (Int32.ofInt z4)]) (o := 0) (rest := []) (r := .int x) (by decide) lw_c69 (by decide +kernel) hc1 dl_609 hl.1 (Nat.le_of_ble_eq_true rfl) hP hS (fun H locs hP hS => ?_)
  refine lv_aload_n hx hb dl_612 rfl (lv_at hl 2 rfl) ?_
  refine lx_arg C dg_613 (by decide) (by omega) e1 hl hS ?_
  refine lx_arg C dg_618 (by decide) (by omega) e2 hl hS ?_
  refine lx_arg C dg_623 (by decide) (by omega) e3 hl hS ?_
  refine lx_arg C dg_628 (by decide) (by omega) e4 hl hS ?_
  refine lx_call C (as := [.int (Int32.ofInt z1), .int (Int32.ofInt z2), .int (Int32.ofInt z3), .int (Int32.ofInt z4)]) (o := 46) (rest := [.int x]) (r := .int x) (by decide) lw_c72 (by decide +kernel) hm2 dl_633 hl.1 (Nat.le_of_ble_eq_true rfl) hP hS (fun H locs hP hS => ?_)
  refine lv_icmp_eq (tgt := 1166) hx hb dl_636 (by decide) (fun _ => ?_) (fun h => absurd rfl h)
  exact kk A' w2 H locs hV' (rC_f rc1 f2) rm2 hle hP hS
set_option maxHeartbeats 4000000 in
set_option maxRecDepth 100000 in
theorem lx_c13 (C : lx_Fix p l e s m args below meth c b L xs dC dI ad cI cB) {i : Nat} {A : AS} {w : PW} {H : Heap} {locs : List Loc} {ls : Array Slot} (hi : i + 6 ≤ L) (hl : lv_has ls 4 [(0, .ref b), (1, .ref (ad 0)), (2, .ref (ad 46)), (3, .int (nI i))]) (hV : q_V A) (hC : rC A w) (hM : rM A w) (h2 : A 0 2 < 1000000) (hP : va_P (dC, dI) ex_cl (ex_cel ad cI cB w) H) (hS : va_S (ex_AA ad s.heap.size) s.heap H locs) (kk : lx_K p l e s m args below meth c Q dC dI ad cI cB A ls) : W p l e room_1 s m args below meth c H locs 71 1804 Q (F0 m 641 ls []) := by
  obtain ⟨hx, hb, hml, hown, hts, hCx, hIn, hX, hbl, hbA, hL⟩ := id C
  obtain ⟨z1, z10, z11, e1⟩ := z_of (xs (i + 1))
  obtain ⟨z2, z20, z21, e2⟩ := z_of (xs (i + 2))
  obtain ⟨z3, z30, z31, e3⟩ := z_of (xs (i + 3))
  obtain ⟨r, A', hV', hc, hm, hle⟩ := g_thing hV z10 z11 z20 z21 z30 z31
  obtain ⟨w1, hc1, rc1, f1⟩ := hc 0 w hC
  obtain ⟨w2, hm2, rm2, f2⟩ := hm 0 w1 (rM_f hM f1)
  obtain ⟨x, hxr⟩ := (ex_cal_3 hc1).1 kr_112
  cases hxr
  refine lv_aload_n hx hb dl_641 rfl (lv_at hl 1 rfl) ?_
  refine lx_arg C dg_642 (by decide) (by omega) e1 hl hS ?_
  refine lx_arg C dg_647 (by decide) (by omega) e2 hl hS ?_
  refine lx_arg C dg_652 (by decide) (by omega) e3 hl hS ?_
  refine lx_call C (as := [.int (Int32.ofInt z1), .int (Int32.ofInt z2), .int (Int32.ofInt z3)]) (o := 0) (rest := []) (r := .int x) (by decide) lw_c73 (by decide +kernel) hc1 dl_657 hl.1 (Nat.le_of_ble_eq_true rfl) hP hS (fun H locs hP hS => ?_)
  refine lv_aload_n hx hb dl_660 rfl (lv_at hl 2 rfl) ?_
  refine lx_arg C dg_661 (by decide) (by omega) e1 hl hS ?_
  refine lx_arg C dg_666 (by decide) (by omega) e2 hl hS ?_
  refine lx_arg C dg_671 (by decide) (by omega) e3 hl hS ?_
  refine lx_call C (as := [.int (Int32.ofInt z1), .int (Int32.ofInt z2), .int (Int32.ofInt z3)]) (o := 46) (rest := [.int x]) (r := .int x) (by decide) lw_c77 (by decide +kernel) hm2 dl_676 hl.1 (Nat.le_of_ble_eq_true rfl) hP hS (fun H locs hP hS => ?_)
  refine lv_icmp_eq (tgt := 1166) hx hb dl_679 (by decide) (fun _ => ?_) (fun h => absurd rfl h)
  exact kk A' w2 H locs hV' (rC_f rc1 f2) rm2 hle hP hS
set_option maxHeartbeats 4000000 in
set_option maxRecDepth 100000 in
theorem lx_c14 (C : lx_Fix p l e s m args below meth c b L xs dC dI ad cI cB) {i : Nat} {A : AS} {w : PW} {H : Heap} {locs : List Loc} {ls : Array Slot} (hi : i + 6 ≤ L) (hl : lv_has ls 4 [(0, .ref b), (1, .ref (ad 0)), (2, .ref (ad 46)), (3, .int (nI i))]) (hV : q_V A) (hC : rC A w) (hM : rM A w) (h2 : A 0 2 < 1000000) (hP : va_P (dC, dI) ex_cl (ex_cel ad cI cB w) H) (hS : va_S (ex_AA ad s.heap.size) s.heap H locs) (kk : lx_K p l e s m args below meth c Q dC dI ad cI cB A ls) : W p l e room_1 s m args below meth c H locs 71 1804 Q (F0 m 684 ls []) := by
  obtain ⟨hx, hb, hml, hown, hts, hCx, hIn, hX, hbl, hbA, hL⟩ := id C
  obtain ⟨z1, z10, z11, e1⟩ := z_of (xs (i + 1))
  obtain ⟨z2, z20, z21, e2⟩ := z_of (xs (i + 2))
  obtain ⟨r, A', hV', hc, hm, hle⟩ := g_asThing hV z10 z11 z20 z21
  obtain ⟨w1, hc1, rc1, f1⟩ := hc 0 w hC
  obtain ⟨w2, hm2, rm2, f2⟩ := hm 0 w1 (rM_f hM f1)
  obtain ⟨x, hxr⟩ := (ex_cal_3 hc1).1 kr_113
  cases hxr
  refine lv_aload_n hx hb dl_684 rfl (lv_at hl 1 rfl) ?_
  refine lx_arg C dg_685 (by decide) (by omega) e1 hl hS ?_
  refine lx_arg C dg_690 (by decide) (by omega) e2 hl hS ?_
  refine lx_call C (as := [.int (Int32.ofInt z1), .int (Int32.ofInt z2)]) (o := 0) (rest := []) (r := .int x) (by decide) lw_c78 (by decide +kernel) hc1 dl_695 hl.1 (Nat.le_of_ble_eq_true rfl) hP hS (fun H locs hP hS => ?_)
  refine lv_aload_n hx hb dl_698 rfl (lv_at hl 2 rfl) ?_
  refine lx_arg C dg_699 (by decide) (by omega) e1 hl hS ?_
  refine lx_arg C dg_704 (by decide) (by omega) e2 hl hS ?_
  refine lx_call C (as := [.int (Int32.ofInt z1), .int (Int32.ofInt z2)]) (o := 46) (rest := [.int x]) (r := .int x) (by decide) lw_c81 (by decide +kernel) hm2 dl_709 hl.1 (Nat.le_of_ble_eq_true rfl) hP hS (fun H locs hP hS => ?_)
  refine lv_icmp_eq (tgt := 1166) hx hb dl_712 (by decide) (fun _ => ?_) (fun h => absurd rfl h)
  exact kk A' w2 H locs hV' (rC_f rc1 f2) rm2 hle hP hS
set_option maxHeartbeats 4000000 in
set_option maxRecDepth 100000 in
theorem lx_c15 (C : lx_Fix p l e s m args below meth c b L xs dC dI ad cI cB) {i : Nat} {A : AS} {w : PW} {H : Heap} {locs : List Loc} {ls : Array Slot} (hi : i + 6 ≤ L) (hl : lv_has ls 4 [(0, .ref b), (1, .ref (ad 0)), (2, .ref (ad 46)), (3, .int (nI i))]) (hV : q_V A) (hC : rC A w) (hM : rM A w) (h2 : A 0 2 < 1000000) (hP : va_P (dC, dI) ex_cl (ex_cel ad cI cB w) H) (hS : va_S (ex_AA ad s.heap.size) s.heap H locs) (kk : lx_K p l e s m args below meth c Q dC dI ad cI cB A ls) : W p l e room_1 s m args below meth c H locs 71 1804 Q (F0 m 717 ls []) := by
  obtain ⟨hx, hb, hml, hown, hts, hCx, hIn, hX, hbl, hbA, hL⟩ := id C
  obtain ⟨z1, z10, z11, e1⟩ := z_of (xs (i + 1))
  obtain ⟨z2, z20, z21, e2⟩ := z_of (xs (i + 2))
  obtain ⟨r, A', hV', hc, hm, hle⟩ := g_about hV z10 z11 z20 z21
  obtain ⟨w1, hc1, rc1, f1⟩ := hc 0 w hC
  obtain ⟨w2, hm2, rm2, f2⟩ := hm 0 w1 (rM_f hM f1)
  obtain ⟨x, hxr⟩ := (ex_cal_3 hc1).1 kr_114
  cases hxr
  refine lv_aload_n hx hb dl_717 rfl (lv_at hl 1 rfl) ?_
  refine lx_arg C dg_718 (by decide) (by omega) e1 hl hS ?_
  refine lx_arg C dg_723 (by decide) (by omega) e2 hl hS ?_
  refine lx_call C (as := [.int (Int32.ofInt z1), .int (Int32.ofInt z2)]) (o := 0) (rest := []) (r := .int x) (by decide) lw_c82 (by decide +kernel) hc1 dl_728 hl.1 (Nat.le_of_ble_eq_true rfl) hP hS (fun H locs hP hS => ?_)
  refine lv_aload_n hx hb dl_731 rfl (lv_at hl 2 rfl) ?_
  refine lx_arg C dg_732 (by decide) (by omega) e1 hl hS ?_
  refine lx_arg C dg_737 (by decide) (by omega) e2 hl hS ?_
  refine lx_call C (as := [.int (Int32.ofInt z1), .int (Int32.ofInt z2)]) (o := 46) (rest := [.int x]) (r := .int x) (by decide) lw_c85 (by decide +kernel) hm2 dl_742 hl.1 (Nat.le_of_ble_eq_true rfl) hP hS (fun H locs hP hS => ?_)
  refine lv_icmp_eq (tgt := 1166) hx hb dl_745 (by decide) (fun _ => ?_) (fun h => absurd rfl h)
  exact kk A' w2 H locs hV' (rC_f rc1 f2) rm2 hle hP hS
set_option maxHeartbeats 4000000 in
set_option maxRecDepth 100000 in
theorem lx_c16 (C : lx_Fix p l e s m args below meth c b L xs dC dI ad cI cB) {i : Nat} {A : AS} {w : PW} {H : Heap} {locs : List Loc} {ls : Array Slot} (hi : i + 6 ≤ L) (hl : lv_has ls 4 [(0, .ref b), (1, .ref (ad 0)), (2, .ref (ad 46)), (3, .int (nI i))]) (hV : q_V A) (hC : rC A w) (hM : rM A w) (h2 : A 0 2 < 1000000) (hP : va_P (dC, dI) ex_cl (ex_cel ad cI cB w) H) (hS : va_S (ex_AA ad s.heap.size) s.heap H locs) (kk : lx_K p l e s m args below meth c Q dC dI ad cI cB A ls) : W p l e room_1 s m args below meth c H locs 71 1804 Q (F0 m 750 ls []) := by
  obtain ⟨hx, hb, hml, hown, hts, hCx, hIn, hX, hbl, hbA, hL⟩ := id C
  obtain ⟨z1, z10, z11, e1⟩ := z_of (xs (i + 1))
  obtain ⟨z2, z20, z21, e2⟩ := z_of (xs (i + 2))
  obtain ⟨z3, z30, z31, e3⟩ := z_of (xs (i + 3))
  obtain ⟨r, A', hV', hc, hm, hle⟩ := g_move hV z10 z11 z20 z21 z30 z31
  obtain ⟨w1, hc1, rc1, f1⟩ := hc 0 w hC
  obtain ⟨w2, hm2, rm2, f2⟩ := hm 0 w1 (rM_f hM f1)
  obtain ⟨x, hxr⟩ := (ex_cal_3 hc1).1 kr_115
  cases hxr
  refine lv_aload_n hx hb dl_750 rfl (lv_at hl 1 rfl) ?_
  refine lx_arg C dg_751 (by decide) (by omega) e1 hl hS ?_
  refine lx_arg C dg_756 (by decide) (by omega) e2 hl hS ?_
  refine lx_arg C dg_761 (by decide) (by omega) e3 hl hS ?_
  refine lx_call C (as := [.int (Int32.ofInt z1), .int (Int32.ofInt z2), .int (Int32.ofInt z3)]) (o := 0) (rest := []) (r := .int x) (by decide) lw_c86 (by decide +kernel) hc1 dl_766 hl.1 (Nat.le_of_ble_eq_true rfl) hP hS (fun H locs hP hS => ?_)
  refine lv_aload_n hx hb dl_769 rfl (lv_at hl 2 rfl) ?_
  refine lx_arg C dg_770 (by decide) (by omega) e1 hl hS ?_
  refine lx_arg C dg_775 (by decide) (by omega) e2 hl hS ?_
  refine lx_arg C dg_780 (by decide) (by omega) e3 hl hS ?_
  refine lx_call C (as := [.int (Int32.ofInt z1), .int (Int32.ofInt z2), .int (Int32.ofInt z3)]) (o := 46) (rest := [.int x]) (r := .int x) (by decide) lw_c89 (by decide +kernel) hm2 dl_785 hl.1 (Nat.le_of_ble_eq_true rfl) hP hS (fun H locs hP hS => ?_)
  refine lv_icmp_eq (tgt := 1166) hx hb dl_788 (by decide) (fun _ => ?_) (fun h => absurd rfl h)
  exact kk A' w2 H locs hV' (rC_f rc1 f2) rm2 hle hP hS
set_option maxHeartbeats 4000000 in
set_option maxRecDepth 100000 in
theorem lx_c17 (C : lx_Fix p l e s m args below meth c b L xs dC dI ad cI cB) {i : Nat} {A : AS} {w : PW} {H : Heap} {locs : List Loc} {ls : Array Slot} (hi : i + 6 ≤ L) (hl : lv_has ls 4 [(0, .ref b), (1, .ref (ad 0)), (2, .ref (ad 46)), (3, .int (nI i))]) (hV : q_V A) (hC : rC A w) (hM : rM A w) (h2 : A 0 2 < 1000000) (hP : va_P (dC, dI) ex_cl (ex_cel ad cI cB w) H) (hS : va_S (ex_AA ad s.heap.size) s.heap H locs) (kk : lx_K p l e s m args below meth c Q dC dI ad cI cB A ls) : W p l e room_1 s m args below meth c H locs 71 1804 Q (F0 m 793 ls []) := by
  obtain ⟨hx, hb, hml, hown, hts, hCx, hIn, hX, hbl, hbA, hL⟩ := id C
  obtain ⟨z1, z10, z11, e1⟩ := z_of (xs (i + 1))
  obtain ⟨z2, z20, z21, e2⟩ := z_of (xs (i + 2))
  obtain ⟨r, A', hV', hc, hm, hle⟩ := g_habit hV z10 z11 z20 z21
  obtain ⟨w1, hc1, rc1, f1⟩ := hc 0 w hC
  obtain ⟨w2, hm2, rm2, f2⟩ := hm 0 w1 (rM_f hM f1)
  obtain ⟨x, hxr⟩ := (ex_cal_3 hc1).1 kr_116
  cases hxr
  refine lv_aload_n hx hb dl_793 rfl (lv_at hl 1 rfl) ?_
  refine lx_arg C dg_794 (by decide) (by omega) e1 hl hS ?_
  refine lx_arg C dg_799 (by decide) (by omega) e2 hl hS ?_
  refine lx_call C (as := [.int (Int32.ofInt z1), .int (Int32.ofInt z2)]) (o := 0) (rest := []) (r := .int x) (by decide) lw_c90 (by decide +kernel) hc1 dl_804 hl.1 (Nat.le_of_ble_eq_true rfl) hP hS (fun H locs hP hS => ?_)
  refine lv_aload_n hx hb dl_807 rfl (lv_at hl 2 rfl) ?_
  refine lx_arg C dg_808 (by decide) (by omega) e1 hl hS ?_
  refine lx_arg C dg_813 (by decide) (by omega) e2 hl hS ?_
  refine lx_call C (as := [.int (Int32.ofInt z1), .int (Int32.ofInt z2)]) (o := 46) (rest := [.int x]) (r := .int x) (by decide) lw_c93 (by decide +kernel) hm2 dl_818 hl.1 (Nat.le_of_ble_eq_true rfl) hP hS (fun H locs hP hS => ?_)
  refine lv_icmp_eq (tgt := 1166) hx hb dl_821 (by decide) (fun _ => ?_) (fun h => absurd rfl h)
  exact kk A' w2 H locs hV' (rC_f rc1 f2) rm2 hle hP hS
set_option maxHeartbeats 4000000 in
set_option maxRecDepth 100000 in
theorem lx_c18 (C : lx_Fix p l e s m args below meth c b L xs dC dI ad cI cB) {i : Nat} {A : AS} {w : PW} {H : Heap} {locs : List Loc} {ls : Array Slot} (hi : i + 6 ≤ L) (hl : lv_has ls 4 [(0, .ref b), (1, .ref (ad 0)), (2, .ref (ad 46)), (3, .int (nI i))]) (hV : q_V A) (hC : rC A w) (hM : rM A w) (h2 : A 0 2 < 1000000) (hP : va_P (dC, dI) ex_cl (ex_cel ad cI cB w) H) (hS : va_S (ex_AA ad s.heap.size) s.heap H locs) (kk : lx_K p l e s m args below meth c Q dC dI ad cI cB A ls) : W p l e room_1 s m args below meth c H locs 71 1804 Q (F0 m 826 ls []) := by
  obtain ⟨hx, hb, hml, hown, hts, hCx, hIn, hX, hbl, hbA, hL⟩ := id C
  obtain ⟨r, A', hV', hc, hm, hle⟩ := g_kept hV 
  obtain ⟨w1, hc1, rc1, f1⟩ := hc 0 w hC
  obtain ⟨w2, hm2, rm2, f2⟩ := hm 0 w1 (rM_f hM f1)
  obtain ⟨x, hxr⟩ := (ex_cal_3 hc1).1 kr_117
  cases hxr
  refine lv_aload_n hx hb dl_826 rfl (lv_at hl 1 rfl) ?_
  refine lx_call C (as := []) (o := 0) (rest := []) (r := .int x) (by decide) lw_c94 (by decide +kernel) hc1 dl_827 hl.1 (Nat.le_of_ble_eq_true rfl) hP hS (fun H locs hP hS => ?_)
  refine lv_aload_n hx hb dl_830 rfl (lv_at hl 2 rfl) ?_
  refine lx_call C (as := []) (o := 46) (rest := [.int x]) (r := .int x) (by decide) lw_c97 (by decide +kernel) hm2 dl_831 hl.1 (Nat.le_of_ble_eq_true rfl) hP hS (fun H locs hP hS => ?_)
  refine lv_icmp_eq (tgt := 1166) hx hb dl_834 (by decide) (fun _ => ?_) (fun h => absurd rfl h)
  exact kk A' w2 H locs hV' (rC_f rc1 f2) rm2 hle hP hS
set_option maxHeartbeats 4000000 in
set_option maxRecDepth 100000 in
theorem lx_c19 (C : lx_Fix p l e s m args below meth c b L xs dC dI ad cI cB) {i : Nat} {A : AS} {w : PW} {H : Heap} {locs : List Loc} {ls : Array Slot} (hi : i + 6 ≤ L) (hl : lv_has ls 4 [(0, .ref b), (1, .ref (ad 0)), (2, .ref (ad 46)), (3, .int (nI i))]) (hV : q_V A) (hC : rC A w) (hM : rM A w) (h2 : A 0 2 < 1000000) (hP : va_P (dC, dI) ex_cl (ex_cel ad cI cB w) H) (hS : va_S (ex_AA ad s.heap.size) s.heap H locs) (kk : lx_K p l e s m args below meth c Q dC dI ad cI cB A ls) : W p l e room_1 s m args below meth c H locs 71 1804 Q (F0 m 839 ls []) := by
  obtain ⟨hx, hb, hml, hown, hts, hCx, hIn, hX, hbl, hbA, hL⟩ := id C
  obtain ⟨z1, z10, z11, e1⟩ := z_of (xs (i + 1))
  obtain ⟨r, A', hV', hc, hm, hle⟩ := g_moves hV z10 z11
  obtain ⟨w1, hc1, rc1, f1⟩ := hc 0 w hC
  obtain ⟨w2, hm2, rm2, f2⟩ := hm 0 w1 (rM_f hM f1)
  obtain ⟨x, hxr⟩ := (ex_cal_3 hc1).1 kr_118
  cases hxr
  refine lv_aload_n hx hb dl_839 rfl (lv_at hl 1 rfl) ?_
  refine lx_arg C dg_840 (by decide) (by omega) e1 hl hS ?_
  refine lx_call C (as := [.int (Int32.ofInt z1)]) (o := 0) (rest := []) (r := .int x) (by decide) lw_c98 (by decide +kernel) hc1 dl_845 hl.1 (Nat.le_of_ble_eq_true rfl) hP hS (fun H locs hP hS => ?_)
  refine lv_aload_n hx hb dl_848 rfl (lv_at hl 2 rfl) ?_
  refine lx_arg C dg_849 (by decide) (by omega) e1 hl hS ?_
  refine lx_call C (as := [.int (Int32.ofInt z1)]) (o := 46) (rest := [.int x]) (r := .int x) (by decide) lw_c101 (by decide +kernel) hm2 dl_854 hl.1 (Nat.le_of_ble_eq_true rfl) hP hS (fun H locs hP hS => ?_)
  refine lv_icmp_eq (tgt := 1166) hx hb dl_857 (by decide) (fun _ => ?_) (fun h => absurd rfl h)
  exact kk A' w2 H locs hV' (rC_f rc1 f2) rm2 hle hP hS
set_option maxHeartbeats 4000000 in
set_option maxRecDepth 100000 in
theorem lx_c20 (C : lx_Fix p l e s m args below meth c b L xs dC dI ad cI cB) {i : Nat} {A : AS} {w : PW} {H : Heap} {locs : List Loc} {ls : Array Slot} (hi : i + 6 ≤ L) (hl : lv_has ls 4 [(0, .ref b), (1, .ref (ad 0)), (2, .ref (ad 46)), (3, .int (nI i))]) (hV : q_V A) (hC : rC A w) (hM : rM A w) (h2 : A 0 2 < 1000000) (hP : va_P (dC, dI) ex_cl (ex_cel ad cI cB w) H) (hS : va_S (ex_AA ad s.heap.size) s.heap H locs) (kk : lx_K p l e s m args below meth c Q dC dI ad cI cB A ls) : W p l e room_1 s m args below meth c H locs 71 1804 Q (F0 m 862 ls []) := by
  obtain ⟨hx, hb, hml, hown, hts, hCx, hIn, hX, hbl, hbA, hL⟩ := id C
  obtain ⟨z1, z10, z11, e1⟩ := z_of (xs (i + 1))
  obtain ⟨z2, z20, z21, e2⟩ := z_of (xs (i + 2))
  obtain ⟨r, A', hV', hc, hm, hle⟩ := g_steps hV z10 z11 z20 z21
  obtain ⟨w1, hc1, rc1, f1⟩ := hc 0 w hC
  obtain ⟨w2, hm2, rm2, f2⟩ := hm 0 w1 (rM_f hM f1)
  obtain ⟨x, hxr⟩ := (ex_cal_3 hc1).1 kr_119
  cases hxr
  refine lv_aload_n hx hb dl_862 rfl (lv_at hl 1 rfl) ?_
  refine lx_arg C dg_863 (by decide) (by omega) e1 hl hS ?_
  refine lx_arg C dg_868 (by decide) (by omega) e2 hl hS ?_
  refine lx_call C (as := [.int (Int32.ofInt z1), .int (Int32.ofInt z2)]) (o := 0) (rest := []) (r := .int x) (by decide) lw_c102 (by decide +kernel) hc1 dl_873 hl.1 (Nat.le_of_ble_eq_true rfl) hP hS (fun H locs hP hS => ?_)
  refine lv_aload_n hx hb dl_876 rfl (lv_at hl 2 rfl) ?_
  refine lx_arg C dg_877 (by decide) (by omega) e1 hl hS ?_
  refine lx_arg C dg_882 (by decide) (by omega) e2 hl hS ?_
  refine lx_call C (as := [.int (Int32.ofInt z1), .int (Int32.ofInt z2)]) (o := 46) (rest := [.int x]) (r := .int x) (by decide) lw_c105 (by decide +kernel) hm2 dl_887 hl.1 (Nat.le_of_ble_eq_true rfl) hP hS (fun H locs hP hS => ?_)
  refine lv_icmp_eq (tgt := 1166) hx hb dl_890 (by decide) (fun _ => ?_) (fun h => absurd rfl h)
  exact kk A' w2 H locs hV' (rC_f rc1 f2) rm2 hle hP hS
set_option maxHeartbeats 4000000 in
set_option maxRecDepth 100000 in
theorem lx_c21 (C : lx_Fix p l e s m args below meth c b L xs dC dI ad cI cB) {i : Nat} {A : AS} {w : PW} {H : Heap} {locs : List Loc} {ls : Array Slot} (hi : i + 6 ≤ L) (hl : lv_has ls 4 [(0, .ref b), (1, .ref (ad 0)), (2, .ref (ad 46)), (3, .int (nI i))]) (hV : q_V A) (hC : rC A w) (hM : rM A w) (h2 : A 0 2 < 1000000) (hP : va_P (dC, dI) ex_cl (ex_cel ad cI cB w) H) (hS : va_S (ex_AA ad s.heap.size) s.heap H locs) (kk : lx_K p l e s m args below meth c Q dC dI ad cI cB A ls) : W p l e room_1 s m args below meth c H locs 71 1804 Q (F0 m 895 ls []) := by
  obtain ⟨hx, hb, hml, hown, hts, hCx, hIn, hX, hbl, hbA, hL⟩ := id C
  obtain ⟨z1, z10, z11, e1⟩ := z_of (xs (i + 1))
  obtain ⟨z2, z20, z21, e2⟩ := z_of (xs (i + 2))
  obtain ⟨z3, z30, z31, e3⟩ := z_of (xs (i + 3))
  obtain ⟨r, A', hV', hc, hm, hle⟩ := g_cheapest hV z10 z11 z20 z21 z30 z31
  obtain ⟨w1, hc1, rc1, f1⟩ := hc 0 w hC
  obtain ⟨w2, hm2, rm2, f2⟩ := hm 0 w1 (rM_f hM f1)
  obtain ⟨x, hxr⟩ := (ex_cal_3 hc1).1 kr_120
  cases hxr
  refine lv_aload_n hx hb dl_895 rfl (lv_at hl 1 rfl) ?_
  refine lx_arg C dg_896 (by decide) (by omega) e1 hl hS ?_
  refine lx_arg C dg_901 (by decide) (by omega) e2 hl hS ?_
  refine lx_arg C dg_906 (by decide) (by omega) e3 hl hS ?_
  refine lx_call C (as := [.int (Int32.ofInt z1), .int (Int32.ofInt z2), .int (Int32.ofInt z3)]) (o := 0) (rest := []) (r := .int x) (by decide) lw_c106 (by decide +kernel) hc1 dl_911 hl.1 (Nat.le_of_ble_eq_true rfl) hP hS (fun H locs hP hS => ?_)
  refine lv_aload_n hx hb dl_914 rfl (lv_at hl 2 rfl) ?_
  refine lx_arg C dg_915 (by decide) (by omega) e1 hl hS ?_
  refine lx_arg C dg_920 (by decide) (by omega) e2 hl hS ?_
  refine lx_arg C dg_925 (by decide) (by omega) e3 hl hS ?_
  refine lx_call C (as := [.int (Int32.ofInt z1), .int (Int32.ofInt z2), .int (Int32.ofInt z3)]) (o := 46) (rest := [.int x]) (r := .int x) (by decide) lw_c109 (by decide +kernel) hm2 dl_930 hl.1 (Nat.le_of_ble_eq_true rfl) hP hS (fun H locs hP hS => ?_)
  refine lv_icmp_eq (tgt := 1166) hx hb dl_933 (by decide) (fun _ => ?_) (fun h => absurd rfl h)
  exact kk A' w2 H locs hV' (rC_f rc1 f2) rm2 hle hP hS
set_option maxHeartbeats 4000000 in
set_option maxRecDepth 100000 in
theorem lx_c22 (C : lx_Fix p l e s m args below meth c b L xs dC dI ad cI cB) {i : Nat} {A : AS} {w : PW} {H : Heap} {locs : List Loc} {ls : Array Slot} (hi : i + 6 ≤ L) (hl : lv_has ls 4 [(0, .ref b), (1, .ref (ad 0)), (2, .ref (ad 46)), (3, .int (nI i))]) (hV : q_V A) (hC : rC A w) (hM : rM A w) (h2 : A 0 2 < 1000000) (hP : va_P (dC, dI) ex_cl (ex_cel ad cI cB w) H) (hS : va_S (ex_AA ad s.heap.size) s.heap H locs) (kk : lx_K p l e s m args below meth c Q dC dI ad cI cB A ls) : W p l e room_1 s m args below meth c H locs 71 1804 Q (F0 m 938 ls []) := by
  obtain ⟨hx, hb, hml, hown, hts, hCx, hIn, hX, hbl, hbA, hL⟩ := id C
  obtain ⟨z1, z10, z11, e1⟩ := z_of (xs (i + 1))
  obtain ⟨z2, z20, z21, e2⟩ := z_of (xs (i + 2))
  obtain ⟨r, A', hV', hc, hm, hle⟩ := g_whose hV z10 z11 z20 z21
  obtain ⟨w1, hc1, rc1, f1⟩ := hc 0 w hC
  obtain ⟨w2, hm2, rm2, f2⟩ := hm 0 w1 (rM_f hM f1)
  obtain ⟨x, hxr⟩ := (ex_cal_3 hc1).1 kr_121
  cases hxr
  refine lv_aload_n hx hb dl_938 rfl (lv_at hl 1 rfl) ?_
  refine lx_arg C dg_939 (by decide) (by omega) e1 hl hS ?_
  refine lx_arg C dg_944 (by decide) (by omega) e2 hl hS ?_
  refine lx_call C (as := [.int (Int32.ofInt z1), .int (Int32.ofInt z2)]) (o := 0) (rest := []) (r := .int x) (by decide) lw_c110 (by decide +kernel) hc1 dl_949 hl.1 (Nat.le_of_ble_eq_true rfl) hP hS (fun H locs hP hS => ?_)
  refine lv_aload_n hx hb dl_952 rfl (lv_at hl 2 rfl) ?_
  refine lx_arg C dg_953 (by decide) (by omega) e1 hl hS ?_
  refine lx_arg C dg_958 (by decide) (by omega) e2 hl hS ?_
  refine lx_call C (as := [.int (Int32.ofInt z1), .int (Int32.ofInt z2)]) (o := 46) (rest := [.int x]) (r := .int x) (by decide) lw_c113 (by decide +kernel) hm2 dl_963 hl.1 (Nat.le_of_ble_eq_true rfl) hP hS (fun H locs hP hS => ?_)
  refine lv_icmp_eq (tgt := 1166) hx hb dl_966 (by decide) (fun _ => ?_) (fun h => absurd rfl h)
  exact kk A' w2 H locs hV' (rC_f rc1 f2) rm2 hle hP hS
set_option maxHeartbeats 4000000 in
set_option maxRecDepth 100000 in
theorem lx_c23 (C : lx_Fix p l e s m args below meth c b L xs dC dI ad cI cB) {i : Nat} {A : AS} {w : PW} {H : Heap} {locs : List Loc} {ls : Array Slot} (hi : i + 6 ≤ L) (hl : lv_has ls 4 [(0, .ref b), (1, .ref (ad 0)), (2, .ref (ad 46)), (3, .int (nI i))]) (hV : q_V A) (hC : rC A w) (hM : rM A w) (h2 : A 0 2 < 1000000) (hP : va_P (dC, dI) ex_cl (ex_cel ad cI cB w) H) (hS : va_S (ex_AA ad s.heap.size) s.heap H locs) (kk : lx_K p l e s m args below meth c Q dC dI ad cI cB A ls) : W p l e room_1 s m args below meth c H locs 71 1804 Q (F0 m 971 ls []) := by
  obtain ⟨hx, hb, hml, hown, hts, hCx, hIn, hX, hbl, hbA, hL⟩ := id C
  obtain ⟨z1, z10, z11, e1⟩ := z_of (xs (i + 1))
  obtain ⟨z2, z20, z21, e2⟩ := z_of (xs (i + 2))
  obtain ⟨z3, z30, z31, e3⟩ := z_of (xs (i + 3))
  obtain ⟨z4, z40, z41, e4⟩ := z_of (xs (i + 4))
  obtain ⟨z5, z50, z51, e5⟩ := z_of (xs (i + 5))
  obtain ⟨r, A', hV', hc, hm, hle⟩ := g_duty hV z10 z11 z20 z21 z30 z31 z40 z41 z50 z51
  obtain ⟨w1, hc1, rc1, f1⟩ := hc 0 w hC
  obtain ⟨w2, hm2, rm2, f2⟩ := hm 0 w1 (rM_f hM f1)
  obtain ⟨x, hxr⟩ := (ex_cal_3 hc1).1 kr_122
  cases hxr
  refine lv_aload_n hx hb dl_971 rfl (lv_at hl 1 rfl) ?_
  refine lx_arg C dg_972 (by decide) (by omega) e1 hl hS ?_
  refine lx_arg C dg_977 (by decide) (by omega) e2 hl hS ?_
  refine lx_arg C dg_982 (by decide) (by omega) e3 hl hS ?_
  refine lx_arg C dg_987 (by decide) (by omega) e4 hl hS ?_
  refine lx_arg C dg_992 (by decide) (by omega) e5 hl hS ?_
  refine lx_call C (as := [.int (Int32.ofInt z1), .int (Int32.ofInt z2), .int (Int32.ofInt z3), .int (Int32.ofInt z4), .int (Int32.ofInt z5)]) (o := 0) (rest := []) (r := .int x) (by decide) lw_c114 (by decide +kernel) hc1 dl_997 hl.1 (Nat.le_of_ble_eq_true rfl) hP hS (fun H locs hP hS => ?_)
  refine lv_aload_n hx hb dl_1000 rfl (lv_at hl 2 rfl) ?_
  refine lx_arg C dg_1001 (by decide) (by omega) e1 hl hS ?_
  refine lx_arg C dg_1006 (by decide) (by omega) e2 hl hS ?_
  refine lx_arg C dg_1011 (by decide) (by omega) e3 hl hS ?_
  refine lx_arg C dg_1016 (by decide) (by omega) e4 hl hS ?_
  refine lx_arg C dg_1021 (by decide) (by omega) e5 hl hS ?_
  refine lx_call C (as := [.int (Int32.ofInt z1), .int (Int32.ofInt z2), .int (Int32.ofInt z3), .int (Int32.ofInt z4), .int (Int32.ofInt z5)]) (o := 46) (rest := [.int x]) (r := .int x) (by decide) lw_c117 (by decide +kernel) hm2 dl_1026 hl.1 (Nat.le_of_ble_eq_true rfl) hP hS (fun H locs hP hS => ?_)
  refine lv_icmp_eq (tgt := 1166) hx hb dl_1029 (by decide) (fun _ => ?_) (fun h => absurd rfl h)
  exact kk A' w2 H locs hV' (rC_f rc1 f2) rm2 hle hP hS
set_option maxHeartbeats 4000000 in
set_option maxRecDepth 100000 in
theorem lx_c24 (C : lx_Fix p l e s m args below meth c b L xs dC dI ad cI cB) {i : Nat} {A : AS} {w : PW} {H : Heap} {locs : List Loc} {ls : Array Slot} (hi : i + 6 ≤ L) (hl : lv_has ls 4 [(0, .ref b), (1, .ref (ad 0)), (2, .ref (ad 46)), (3, .int (nI i))]) (hV : q_V A) (hC : rC A w) (hM : rM A w) (h2 : A 0 2 < 1000000) (hP : va_P (dC, dI) ex_cl (ex_cel ad cI cB w) H) (hS : va_S (ex_AA ad s.heap.size) s.heap H locs) (kk : lx_K p l e s m args below meth c Q dC dI ad cI cB A ls) : W p l e room_1 s m args below meth c H locs 71 1804 Q (F0 m 1034 ls []) := by
  obtain ⟨hx, hb, hml, hown, hts, hCx, hIn, hX, hbl, hbA, hL⟩ := id C
  obtain ⟨z1, z10, z11, e1⟩ := z_of (xs (i + 1))
  obtain ⟨r, A', hV', hc, hm, hle⟩ := g_drawn hV z10 z11
  obtain ⟨w1, hc1, rc1, f1⟩ := hc 0 w hC
  obtain ⟨w2, hm2, rm2, f2⟩ := hm 0 w1 (rM_f hM f1)
  obtain ⟨x, hxr⟩ := (ex_cal_3 hc1).1 kr_123
  cases hxr
  refine lv_aload_n hx hb dl_1034 rfl (lv_at hl 1 rfl) ?_
  refine lx_arg C dg_1035 (by decide) (by omega) e1 hl hS ?_
  refine lx_call C (as := [.int (Int32.ofInt z1)]) (o := 0) (rest := []) (r := .int x) (by decide) lw_c118 (by decide +kernel) hc1 dl_1040 hl.1 (Nat.le_of_ble_eq_true rfl) hP hS (fun H locs hP hS => ?_)
  refine lv_aload_n hx hb dl_1043 rfl (lv_at hl 2 rfl) ?_
  refine lx_arg C dg_1044 (by decide) (by omega) e1 hl hS ?_
  refine lx_call C (as := [.int (Int32.ofInt z1)]) (o := 46) (rest := [.int x]) (r := .int x) (by decide) lw_c121 (by decide +kernel) hm2 dl_1049 hl.1 (Nat.le_of_ble_eq_true rfl) hP hS (fun H locs hP hS => ?_)
  refine lv_icmp_eq (tgt := 1166) hx hb dl_1052 (by decide) (fun _ => ?_) (fun h => absurd rfl h)
  exact kk A' w2 H locs hV' (rC_f rc1 f2) rm2 hle hP hS
set_option maxHeartbeats 4000000 in
set_option maxRecDepth 100000 in
theorem lx_c25 (C : lx_Fix p l e s m args below meth c b L xs dC dI ad cI cB) {i : Nat} {A : AS} {w : PW} {H : Heap} {locs : List Loc} {ls : Array Slot} (hi : i + 6 ≤ L) (hl : lv_has ls 4 [(0, .ref b), (1, .ref (ad 0)), (2, .ref (ad 46)), (3, .int (nI i))]) (hV : q_V A) (hC : rC A w) (hM : rM A w) (h2 : A 0 2 < 1000000) (hP : va_P (dC, dI) ex_cl (ex_cel ad cI cB w) H) (hS : va_S (ex_AA ad s.heap.size) s.heap H locs) (kk : lx_K p l e s m args below meth c Q dC dI ad cI cB A ls) : W p l e room_1 s m args below meth c H locs 71 1804 Q (F0 m 1057 ls []) := by
  obtain ⟨hx, hb, hml, hown, hts, hCx, hIn, hX, hbl, hbA, hL⟩ := id C
  obtain ⟨z1, z10, z11, e1⟩ := z_of (xs (i + 1))
  obtain ⟨z2, z20, z21, e2⟩ := z_of (xs (i + 2))
  obtain ⟨r, A', hV', hc, hm, hle⟩ := g_judgment hV z10 z11 z20 z21
  obtain ⟨w1, hc1, rc1, f1⟩ := hc 0 w hC
  obtain ⟨w2, hm2, rm2, f2⟩ := hm 0 w1 (rM_f hM f1)
  obtain ⟨x, hxr⟩ := (ex_cal_3 hc1).1 kr_124
  cases hxr
  refine lv_aload_n hx hb dl_1057 rfl (lv_at hl 1 rfl) ?_
  refine lx_arg C dg_1058 (by decide) (by omega) e1 hl hS ?_
  refine lx_arg C dg_1063 (by decide) (by omega) e2 hl hS ?_
  refine lx_call C (as := [.int (Int32.ofInt z1), .int (Int32.ofInt z2)]) (o := 0) (rest := []) (r := .int x) (by decide) lw_c122 (by decide +kernel) hc1 dl_1068 hl.1 (Nat.le_of_ble_eq_true rfl) hP hS (fun H locs hP hS => ?_)
  refine lv_aload_n hx hb dl_1071 rfl (lv_at hl 2 rfl) ?_
  refine lx_arg C dg_1072 (by decide) (by omega) e1 hl hS ?_
  refine lx_arg C dg_1077 (by decide) (by omega) e2 hl hS ?_
  refine lx_call C (as := [.int (Int32.ofInt z1), .int (Int32.ofInt z2)]) (o := 46) (rest := [.int x]) (r := .int x) (by decide) lw_c125 (by decide +kernel) hm2 dl_1082 hl.1 (Nat.le_of_ble_eq_true rfl) hP hS (fun H locs hP hS => ?_)
  refine lv_icmp_eq (tgt := 1166) hx hb dl_1085 (by decide) (fun _ => ?_) (fun h => absurd rfl h)
  exact kk A' w2 H locs hV' (rC_f rc1 f2) rm2 hle hP hS
set_option maxHeartbeats 4000000 in
set_option maxRecDepth 100000 in
theorem lx_c26 (C : lx_Fix p l e s m args below meth c b L xs dC dI ad cI cB) {i : Nat} {A : AS} {w : PW} {H : Heap} {locs : List Loc} {ls : Array Slot} (hi : i + 6 ≤ L) (hl : lv_has ls 4 [(0, .ref b), (1, .ref (ad 0)), (2, .ref (ad 46)), (3, .int (nI i))]) (hV : q_V A) (hC : rC A w) (hM : rM A w) (h2 : A 0 2 < 1000000) (hP : va_P (dC, dI) ex_cl (ex_cel ad cI cB w) H) (hS : va_S (ex_AA ad s.heap.size) s.heap H locs) (kk : lx_K p l e s m args below meth c Q dC dI ad cI cB A ls) : W p l e room_1 s m args below meth c H locs 71 1804 Q (F0 m 1090 ls []) := by
  obtain ⟨hx, hb, hml, hown, hts, hCx, hIn, hX, hbl, hbA, hL⟩ := id C
  obtain ⟨r, A', hV', hc, hm, hle⟩ := g_fits hV 
  obtain ⟨w1, hc1, rc1, f1⟩ := hc 0 w hC
  obtain ⟨w2, hm2, rm2, f2⟩ := hm 0 w1 (rM_f hM f1)
  obtain ⟨x, hxr⟩ := (ex_cal_3 hc1).1 kr_125
  cases hxr
  refine lv_aload_n hx hb dl_1090 rfl (lv_at hl 1 rfl) ?_
  refine lx_call C (as := []) (o := 0) (rest := []) (r := .int x) (by decide) lw_c126 (by decide +kernel) hc1 dl_1091 hl.1 (Nat.le_of_ble_eq_true rfl) hP hS (fun H locs hP hS => ?_)
  refine lv_aload_n hx hb dl_1094 rfl (lv_at hl 2 rfl) ?_
  refine lx_call C (as := []) (o := 46) (rest := [.int x]) (r := .int x) (by decide) lw_c129 (by decide +kernel) hm2 dl_1095 hl.1 (Nat.le_of_ble_eq_true rfl) hP hS (fun H locs hP hS => ?_)
  refine lv_icmp_eq (tgt := 1166) hx hb dl_1098 (by decide) (fun _ => ?_) (fun h => absurd rfl h)
  exact kk A' w2 H locs hV' (rC_f rc1 f2) rm2 hle hP hS
set_option maxHeartbeats 4000000 in
set_option maxRecDepth 100000 in
theorem lx_c27 (C : lx_Fix p l e s m args below meth c b L xs dC dI ad cI cB) {i : Nat} {A : AS} {w : PW} {H : Heap} {locs : List Loc} {ls : Array Slot} (hi : i + 6 ≤ L) (hl : lv_has ls 4 [(0, .ref b), (1, .ref (ad 0)), (2, .ref (ad 46)), (3, .int (nI i))]) (hV : q_V A) (hC : rC A w) (hM : rM A w) (h2 : A 0 2 < 1000000) (hP : va_P (dC, dI) ex_cl (ex_cel ad cI cB w) H) (hS : va_S (ex_AA ad s.heap.size) s.heap H locs) (kk : lx_K p l e s m args below meth c Q dC dI ad cI cB A ls) : W p l e room_1 s m args below meth c H locs 71 1804 Q (F0 m 1103 ls []) := by
  obtain ⟨hx, hb, hml, hown, hts, hCx, hIn, hX, hbl, hbA, hL⟩ := id C
  obtain ⟨r, A', hV', hc, hm, hle⟩ := g_image hV 
  obtain ⟨w1, hc1, rc1, f1⟩ := hc 0 w hC
  obtain ⟨w2, hm2, rm2, f2⟩ := hm 0 w1 (rM_f hM f1)
  obtain ⟨x, hxr⟩ := (ex_cal_3 hc1).1 kr_126
  cases hxr
  refine lv_aload_n hx hb dl_1103 rfl (lv_at hl 1 rfl) ?_
  refine lx_call C (as := []) (o := 0) (rest := []) (r := .int x) (by decide) lw_c130 (by decide +kernel) hc1 dl_1104 hl.1 (Nat.le_of_ble_eq_true rfl) hP hS (fun H locs hP hS => ?_)
  refine lv_aload_n hx hb dl_1107 rfl (lv_at hl 2 rfl) ?_
  refine lx_call C (as := []) (o := 46) (rest := [.int x]) (r := .int x) (by decide) lw_c133 (by decide +kernel) hm2 dl_1108 hl.1 (Nat.le_of_ble_eq_true rfl) hP hS (fun H locs hP hS => ?_)
  refine lv_icmp_eq (tgt := 1166) hx hb dl_1111 (by decide) (fun _ => ?_) (fun h => absurd rfl h)
  exact kk A' w2 H locs hV' (rC_f rc1 f2) rm2 hle hP hS
set_option maxHeartbeats 4000000 in
set_option maxRecDepth 100000 in
theorem lx_c28 (C : lx_Fix p l e s m args below meth c b L xs dC dI ad cI cB) {i : Nat} {A : AS} {w : PW} {H : Heap} {locs : List Loc} {ls : Array Slot} (hi : i + 6 ≤ L) (hl : lv_has ls 4 [(0, .ref b), (1, .ref (ad 0)), (2, .ref (ad 46)), (3, .int (nI i))]) (hV : q_V A) (hC : rC A w) (hM : rM A w) (h2 : A 0 2 < 1000000) (hP : va_P (dC, dI) ex_cl (ex_cel ad cI cB w) H) (hS : va_S (ex_AA ad s.heap.size) s.heap H locs) (kk : lx_K p l e s m args below meth c Q dC dI ad cI cB A ls) : W p l e room_1 s m args below meth c H locs 71 1804 Q (F0 m 1116 ls []) := by
  obtain ⟨hx, hb, hml, hown, hts, hCx, hIn, hX, hbl, hbA, hL⟩ := id C
  obtain ⟨r, A', hV', hc, hm, hle⟩ := g_restore hV 
  obtain ⟨w1, hc1, rc1, f1⟩ := hc 0 w hC
  obtain ⟨w2, hm2, rm2, f2⟩ := hm 0 w1 (rM_f hM f1)
  obtain ⟨x, hxr⟩ := (ex_cal_3 hc1).1 kr_127
  cases hxr
  refine lv_aload_n hx hb dl_1116 rfl (lv_at hl 1 rfl) ?_
  refine lx_call C (as := []) (o := 0) (rest := []) (r := .int x) (by decide) lw_c134 (by decide +kernel) hc1 dl_1117 hl.1 (Nat.le_of_ble_eq_true rfl) hP hS (fun H locs hP hS => ?_)
  refine lv_aload_n hx hb dl_1120 rfl (lv_at hl 2 rfl) ?_
  refine lx_call C (as := []) (o := 46) (rest := [.int x]) (r := .int x) (by decide) lw_c137 (by decide +kernel) hm2 dl_1121 hl.1 (Nat.le_of_ble_eq_true rfl) hP hS (fun H locs hP hS => ?_)
  refine lv_icmp_eq (tgt := 1166) hx hb dl_1124 (by decide) (fun _ => ?_) (fun h => absurd rfl h)
  exact kk A' w2 H locs hV' (rC_f rc1 f2) rm2 hle hP hS
set_option maxHeartbeats 4000000 in
set_option maxRecDepth 100000 in
theorem lx_c29 (C : lx_Fix p l e s m args below meth c b L xs dC dI ad cI cB) {i : Nat} {A : AS} {w : PW} {H : Heap} {locs : List Loc} {ls : Array Slot} (hi : i + 6 ≤ L) (hl : lv_has ls 4 [(0, .ref b), (1, .ref (ad 0)), (2, .ref (ad 46)), (3, .int (nI i))]) (hV : q_V A) (hC : rC A w) (hM : rM A w) (h2 : A 0 2 < 1000000) (hP : va_P (dC, dI) ex_cl (ex_cel ad cI cB w) H) (hS : va_S (ex_AA ad s.heap.size) s.heap H locs) (kk : lx_K p l e s m args below meth c Q dC dI ad cI cB A ls) : W p l e room_1 s m args below meth c H locs 71 1804 Q (F0 m 1129 ls []) := by
  obtain ⟨hx, hb, hml, hown, hts, hCx, hIn, hX, hbl, hbA, hL⟩ := id C
  obtain ⟨z1, z10, z11, e1⟩ := z_of (xs (i + 1))
  obtain ⟨r, A', hV', hc, hm, hle⟩ := g_count hV z10 z11
  obtain ⟨w1, hc1, rc1, f1⟩ := hc 0 w hC
  obtain ⟨w2, hm2, rm2, f2⟩ := hm 0 w1 (rM_f hM f1)
  obtain ⟨x, hxr⟩ := (ex_cal_3 hc1).1 kr_128
  cases hxr
  refine lv_aload_n hx hb dl_1129 rfl (lv_at hl 1 rfl) ?_
  refine lx_arg C dg_1130 (by decide) (by omega) e1 hl hS ?_
  refine lx_call C (as := [.int (Int32.ofInt z1)]) (o := 0) (rest := []) (r := .int x) (by decide) lw_c138 (by decide +kernel) hc1 dl_1135 hl.1 (Nat.le_of_ble_eq_true rfl) hP hS (fun H locs hP hS => ?_)
  refine lv_aload_n hx hb dl_1138 rfl (lv_at hl 2 rfl) ?_
  refine lx_arg C dg_1139 (by decide) (by omega) e1 hl hS ?_
  refine lx_call C (as := [.int (Int32.ofInt z1)]) (o := 46) (rest := [.int x]) (r := .int x) (by decide) lw_c141 (by decide +kernel) hm2 dl_1144 hl.1 (Nat.le_of_ble_eq_true rfl) hP hS (fun H locs hP hS => ?_)
  refine lv_icmp_eq (tgt := 1166) hx hb dl_1147 (by decide) (fun _ => ?_) (fun h => absurd rfl h)
  exact kk A' w2 H locs hV' (rC_f rc1 f2) rm2 hle hP hS
set_option maxHeartbeats 4000000 in
set_option maxRecDepth 100000 in
theorem lx_c30 (C : lx_Fix p l e s m args below meth c b L xs dC dI ad cI cB) {i : Nat} {A : AS} {w : PW} {H : Heap} {locs : List Loc} {ls : Array Slot} (hi : i + 6 ≤ L) (hl : lv_has ls 4 [(0, .ref b), (1, .ref (ad 0)), (2, .ref (ad 46)), (3, .int (nI i))]) (hV : q_V A) (hC : rC A w) (hM : rM A w) (h2 : A 0 2 < 1000000) (hP : va_P (dC, dI) ex_cl (ex_cel ad cI cB w) H) (hS : va_S (ex_AA ad s.heap.size) s.heap H locs) (kk : lx_K p l e s m args below meth c Q dC dI ad cI cB A ls) : W p l e room_1 s m args below meth c H locs 71 1804 Q (F0 m 1152 ls []) := by
  obtain ⟨hx, hb, hml, hown, hts, hCx, hIn, hX, hbl, hbA, hL⟩ := id C
  obtain ⟨r, A', hV', hc, hm, hle⟩ := g_digest hV 
  obtain ⟨w1, hc1, rc1, f1⟩ := hc 0 w hC
  obtain ⟨w2, hm2, rm2, f2⟩ := hm 0 w1 (rM_f hM f1)
  obtain ⟨x, hxr⟩ := (ex_cal_3 hc1).2 kr_129
  cases hxr
  refine lv_aload_n hx hb dl_1152 rfl (lv_at hl 1 rfl) ?_
  refine lx_call C (as := []) (o := 0) (rest := []) (r := .long x) (by decide) lw_c142 (by decide +kernel) hc1 dl_1153 hl.1 (Nat.le_of_ble_eq_true rfl) hP hS (fun H locs hP hS => ?_)
  refine lv_aload_n hx hb dl_1156 rfl (lv_at hl 2 rfl) ?_
  refine lx_call C (as := []) (o := 46) (rest := [.long x]) (r := .long x) (by decide) lw_c146 (by decide +kernel) hm2 dl_1157 hl.1 (Nat.le_of_ble_eq_true rfl) hP hS (fun H locs hP hS => ?_)
  refine W.lcmp hx hb dl_1160 ?_
  refine lv_if_eq (tgt := 1166) hx hb dl_1161 (by decide) (fun _ => ?_) (fun h => absurd lx_cmp h)
  exact kk A' w2 H locs hV' (rC_f rc1 f2) rm2 hle hP hS
end LC
