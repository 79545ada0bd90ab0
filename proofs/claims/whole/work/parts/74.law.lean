theorem lm_k13 : Cond.constantLong RL 13 4294967295 ∈ lw_tbl := (lm_r1 _ (List.mem_of_getElem? (i := 6) (by decide +kernel)))
/-! THE LAW'S CASES. -/
theorem gz_T : ∀ w ∈ wzT, w ∈ lw_tbl := by
  have h : ∀ w ∈ wsX11_act, w ∈ lw_tbl := lt_X11_act
  refine List.forall_mem_append.mpr ⟨lm_wzE, ?_⟩
  exact List.forall_mem_append.mpr ⟨fun w hw => h w (ggX11_act_X0_shows w hw).1, List.forall_mem_append.mpr ⟨fun w hw => h w (ggX11_act_X0_tells w hw).1, List.forall_mem_append.mpr ⟨fun w hw => h w (ggX11_act_X1_shares w hw).1, List.forall_mem_append.mpr ⟨fun w hw => h w (ggX11_act_X1_shows w hw).1, List.forall_mem_append.mpr ⟨fun w hw => h w (ggX11_act_X2_tells w hw).1, List.forall_mem_append.mpr ⟨fun w hw => h w (ggX11_act_X2_shares w hw).1, List.forall_mem_append.mpr ⟨fun w hw => h w (ggX11_act_X5_shows w hw).1, List.forall_mem_append.mpr ⟨fun w hw => h w (ggX11_act_X5_moves w hw).1, List.forall_mem_append.mpr ⟨fun w hw => h w (ggX11_act_X7_moves w hw).1, List.forall_mem_append.mpr ⟨fun w hw => h w (ggX11_act_X8_shows w hw).1, List.forall_mem_append.mpr ⟨fun w hw => h w (ggX11_act_X8_moves w hw).1, List.forall_mem_append.mpr ⟨fun w hw => h w (ggX11_act_X8_shares w hw).1, List.forall_mem_append.mpr ⟨fun w hw => h w (ggX11_act_X8_tells w hw).1, fun _ h => absurd h List.not_mem_nil⟩⟩⟩⟩⟩⟩⟩⟩⟩⟩⟩⟩⟩
theorem gz_act : GoodIn lw_tbl (wsV RL 165 RX11 yX11_act (wsX11_act ++ wzT)) := by
  refine good_pre lg_X11_act (fun _ h => h) (goodIn_app lgd_X11_act (fun w hw => ⟨gz_T w hw, good_of_word (List.all_eq_true.mp wzT_good w hw)⟩))
/-- what stands through the law: the machine, the words, what the classes are, the script at b -/
def LW (p : Program) (s : State) (m : MethodId) (meth : Method) (c : Code) (D : va_G) (kA : Nat → ClassId) (adK adV : Nat → Nat) (lyc lyr : Nat → Nat) (b L : Nat) (xs : Nat → Int32) : Prop :=
  p.tables.exec = Jvm.exec ∧ c.code = cL_law ∧ c.maxLocals = 4 ∧ s.vm.findClass RL = some m.cls ∧ (∀ w ∈ lw_tbl, w.before #[Value.ref b] s = true) ∧ va_X b L xs s s.heap ∧ b < s.heap.size ∧ va_K D vwCl (tysC kA) s ∧ NW s ∧ SX adK adV (fun q : Nat => s.heap.size ≤ q) s s.heap ∧ (∀ q, lyc (59 + q) = q)
theorem rcs_in : ∀ c, c < 20 → c ∈ rcs := fun _ h => List.mem_range.mpr h
section LC
variable {p : Program} {l : Launch} {e : Env} {s : State} {m : MethodId} {below : List Frame} {meth : Method} {c : Code} {H : Heap} {locs : List Loc} {cells slots : Nat} {Qw : State → Prop} {ls : Array Slot}
variable {D : va_G} {kA : Nat → ClassId} {adK adV lyc lyr : Nat → Nat} {n : List Nat} {S T : St} {b L : Nat} {xs : Nat → Int32} {x3 : Int32} {Rel : List Nat → St → St → Prop}
/-- a step of feed keeps the relation, and the answers are the same -/
def step_feed (Rel : List Nat → St → St → Prop) : Prop := ∀ (n : List Nat) (S T : St) (a1 : Int64) (a2 : Int32), (∀ c, c < 59 → c ∈ n) → Rel n S T → wp_X11_feed a1 a2 S (fun r S1 => wp_X12_feed a1 a2 T (fun r1 T1 => r = r1 ∧ Rel n S1 T1))
set_option maxHeartbeats 4000000 in
set_option maxRecDepth 100000 in
theorem lc_feed (hC : LW p s m meth c D kA adK adV lyc lyr b L xs) (hc1 : cells + 2 ≤ 600000) (hc2 : slots + 42 ≤ 7302250) (h5 : ∀ k : Int32, 1 ≤ k → k ≤ 5 → vp_in (x3 + k) L) (hstep : step_feed Rel) (hn : ∀ c, c < 59 → c ∈ n) (hR : Rel n S T) (hL : L2 D kA lyc lyr n s.heap S T H locs) (hl : lv_has ls 4 [(3, .int x3), (0, .ref b), (1, .ref (lyc 0)), (2, .ref (lyr 0))])
    (next : ∀ (n1 : List Nat) (S1 T1 : St) (H1 : Heap) (locs1 : List Loc) (ls1 : Array Slot), (∀ c, c < 59 → c ∈ n1) → Rel n1 S1 T1 → L2 D kA lyc lyr n1 s.heap S1 T1 H1 locs1 → lv_has ls1 4 [(3, .int x3), (0, .ref b), (1, .ref (lyc 0)), (2, .ref (lyr 0))] → W p l e room_1 s m #[Value.ref b] below meth c H1 locs1 (cells + 2) (slots + 42) Qw (F0 m 1595 ls1 [])) : W p l e room_1 s m #[Value.ref b] below meth c H locs cells slots Qw (F0 m 212 ls []) := by
  obtain ⟨hx, hb, hml, hown, hts, hXs, hbl, hK, hN, hXs2, hly⟩ := hC
  have hbA : ¬ (fun q : Nat => s.heap.size ≤ q) b := Nat.not_le.mpr hbl
  refine lv_aload_n hx hb dL_law_212 rfl (lv_at hl 2 rfl) ?_
  refine lv_aload_n hx hb dL_law_213 rfl (lv_at hl 1 rfl) ?_
  refine lv_iload_n hx hb dL_law_214 rfl (lv_at hl 0 rfl) ?_
  refine lv_iconst (v := 1) hx hb dL_law_215 (by decide +kernel) ?_
  refine lv_iadd hx hb dL_law_216 ?_
  refine va_sld hx hb hXs hbl hbA hL.2.2.2.2.2 (h5 1 (by decide) (by decide)) dL_law_217 ?_
  refine lv_i2l hx hb dL_law_218 rfl ?_
  refine lv_bipush (v := 32) hx hb dL_law_219 (by decide +kernel) ?_
  refine lv_lshl hx hb dL_law_221 rfl ?_
  refine lv_aload_n hx hb dL_law_222 rfl (lv_at hl 1 rfl) ?_
  refine lv_iload_n hx hb dL_law_223 rfl (lv_at hl 0 rfl) ?_
  refine lv_iconst (v := 2) hx hb dL_law_224 (by decide +kernel) ?_
  refine lv_iadd hx hb dL_law_225 ?_
  refine va_sld hx hb hXs hbl hbA hL.2.2.2.2.2 (h5 2 (by decide) (by decide)) dL_law_226 ?_
  refine lv_i2l hx hb dL_law_227 rfl ?_
  refine lv_ldc2 (v := 4294967295) hx hb hown (hts _ lm_k13) dL_law_228 ?_
  refine lv_land hx hb dL_law_231 ?_
  refine lv_lor hx hb dL_law_232 ?_
  refine lv_aload_n hx hb dL_law_233 rfl (lv_at hl 1 rfl) ?_
  refine lv_iload_n hx hb dL_law_234 rfl (lv_at hl 0 rfl) ?_
  refine lv_iconst (v := 3) hx hb dL_law_235 (by decide +kernel) ?_
  refine lv_iadd hx hb dL_law_236 ?_
  refine va_sld hx hb hXs hbl hbA hL.2.2.2.2.2 (h5 3 (by decide) (by decide)) dL_law_237 ?_
  refine L2.aftC (va_runV (As := [.long ((((xs (x3 + (1 : Int32)).toNatClampNeg).toInt64) <<< ((32 : Int32).toInt64 &&& 63)) ||| (((xs (x3 + (2 : Int32)).toNatClampNeg).toInt64) &&& (4294967295 : Int64))), .int (xs (x3 + (3 : Int32)).toNatClampNeg)]) (rest := []) ⟨hx, hb, hml, hown, hts⟩ (c_X11_feed l D kA lyc n hn (Ac lyc n) ((((xs (x3 + (1 : Int32)).toNatClampNeg).toInt64) <<< ((32 : Int32).toInt64 &&& 63)) ||| (((xs (x3 + (2 : Int32)).toNatClampNeg).toInt64) &&& (4294967295 : Int64))) (xs (x3 + (3 : Int32)).toNatClampNeg) S _) (cwV 2 hts lg_X11_feed rfl rfl rfl (by decide +kernel) ⟨(Nat.le_of_ble_eq_true rfl), (Nat.le_of_ble_eq_true rfl)⟩) ⟨k_blind, hL.recvC hK hn, hL.preC hK hN (hstep n S T ((((xs (x3 + (1 : Int32)).toNatClampNeg).toInt64) <<< ((32 : Int32).toInt64 &&& 63)) ||| (((xs (x3 + (2 : Int32)).toNatClampNeg).toInt64) &&& (4294967295 : Int64))) (xs (x3 + (3 : Int32)).toNatClampNeg) hn hR)⟩ rfl rfl hl.1 rfl (lv_room (Nat.le_of_ble_eq_true rfl)) dL_law_238 ⟨by have := hc1; show _ ≤ 600000; omega, by have := hc2; show _ ≤ 7302250; omega⟩) hL (fun r S H locs hw hL => ?_)
  refine lv_aload_n hx hb dL_law_241 rfl (lv_at hl 3 rfl) ?_
  refine lv_aload_n hx hb dL_law_242 rfl (lv_at hl 1 rfl) ?_
  refine lv_iload_n hx hb dL_law_243 rfl (lv_at hl 0 rfl) ?_
  refine lv_iconst (v := 1) hx hb dL_law_244 (by decide +kernel) ?_
  refine lv_iadd hx hb dL_law_245 ?_
  refine va_sld hx hb hXs hbl hbA hL.2.2.2.2.2 (h5 1 (by decide) (by decide)) dL_law_246 ?_
  refine lv_i2l hx hb dL_law_247 rfl ?_
  refine lv_bipush (v := 32) hx hb dL_law_248 (by decide +kernel) ?_
  refine lv_lshl hx hb dL_law_250 rfl ?_
  refine lv_aload_n hx hb dL_law_251 rfl (lv_at hl 1 rfl) ?_
  refine lv_iload_n hx hb dL_law_252 rfl (lv_at hl 0 rfl) ?_
  refine lv_iconst (v := 2) hx hb dL_law_253 (by decide +kernel) ?_
  refine lv_iadd hx hb dL_law_254 ?_
  refine va_sld hx hb hXs hbl hbA hL.2.2.2.2.2 (h5 2 (by decide) (by decide)) dL_law_255 ?_
  refine lv_i2l hx hb dL_law_256 rfl ?_
  refine lv_ldc2 (v := 4294967295) hx hb hown (hts _ lm_k13) dL_law_257 ?_
  refine lv_land hx hb dL_law_260 ?_
  refine lv_lor hx hb dL_law_261 ?_
  refine lv_aload_n hx hb dL_law_262 rfl (lv_at hl 1 rfl) ?_
  refine lv_iload_n hx hb dL_law_263 rfl (lv_at hl 0 rfl) ?_
  refine lv_iconst (v := 3) hx hb dL_law_264 (by decide +kernel) ?_
  refine lv_iadd hx hb dL_law_265 ?_
  refine va_sld hx hb hXs hbl hbA hL.2.2.2.2.2 (h5 3 (by decide) (by decide)) dL_law_266 ?_
  refine L2.aftR (va_runV (As := [.long ((((xs (x3 + (1 : Int32)).toNatClampNeg).toInt64) <<< ((32 : Int32).toInt64 &&& 63)) ||| (((xs (x3 + (2 : Int32)).toNatClampNeg).toInt64) &&& (4294967295 : Int64))), .int (xs (x3 + (3 : Int32)).toNatClampNeg)]) (rest := [.int r]) ⟨hx, hb, hml, hown, hts⟩ (c_X12_feed l D kA lyr rcs rcs_in (Ac lyr rcs) ((((xs (x3 + (1 : Int32)).toNatClampNeg).toInt64) <<< ((32 : Int32).toInt64 &&& 63)) ||| (((xs (x3 + (2 : Int32)).toNatClampNeg).toInt64) &&& (4294967295 : Int64))) (xs (x3 + (3 : Int32)).toNatClampNeg) T _) (cwV 2 hts lg_X12_feed rfl rfl rfl (by decide +kernel) ⟨(Nat.le_of_ble_eq_true rfl), (Nat.le_of_ble_eq_true rfl)⟩) ⟨k_blind, hL.recvR hK, hL.preR hK hN hw⟩ rfl rfl hl.1 rfl (lv_room (Nat.le_of_ble_eq_true rfl)) dL_law_267 ⟨by have := hc1; show _ ≤ 600000; omega, by have := hc2; show _ ≤ 7302250; omega⟩) hL (fun r2 T H locs hw hL => ?_)
  refine lv_icmp_eq (tgt := 1595) hx hb dL_law_270 (by decide) (fun _ => ?_) (fun hc => absurd hw.1 hc)
  refine W.widen (k := cells + 2) (n := slots + 42) (by omega) (by omega) ?_
  exact next n S T H locs ls hn hw.2 hL hl
/-- a step of quarry keeps the relation, and the answers are the same -/
def step_quarry (Rel : List Nat → St → St → Prop) : Prop := ∀ (n : List Nat) (S T : St), (∀ c, c < 59 → c ∈ n) → Rel n S T → wp_X11_quarry S (fun r S1 => wp_X12_quarry T (fun r1 T1 => r = r1 ∧ Rel n S1 T1))
set_option maxHeartbeats 4000000 in
set_option maxRecDepth 100000 in
theorem lc_quarry (hC : LW p s m meth c D kA adK adV lyc lyr b L xs) (hc1 : cells + 2 ≤ 600000) (hc2 : slots + 42 ≤ 7302250) (h5 : ∀ k : Int32, 1 ≤ k → k ≤ 5 → vp_in (x3 + k) L) (hstep : step_quarry Rel) (hn : ∀ c, c < 59 → c ∈ n) (hR : Rel n S T) (hL : L2 D kA lyc lyr n s.heap S T H locs) (hl : lv_has ls 4 [(3, .int x3), (0, .ref b), (1, .ref (lyc 0)), (2, .ref (lyr 0))])
    (next : ∀ (n1 : List Nat) (S1 T1 : St) (H1 : Heap) (locs1 : List Loc) (ls1 : Array Slot), (∀ c, c < 59 → c ∈ n1) → Rel n1 S1 T1 → L2 D kA lyc lyr n1 s.heap S1 T1 H1 locs1 → lv_has ls1 4 [(3, .int x3), (0, .ref b), (1, .ref (lyc 0)), (2, .ref (lyr 0))] → W p l e room_1 s m #[Value.ref b] below meth c H1 locs1 (cells + 2) (slots + 42) Qw (F0 m 1595 ls1 [])) : W p l e room_1 s m #[Value.ref b] below meth c H locs cells slots Qw (F0 m 275 ls []) := by
  obtain ⟨hx, hb, hml, hown, hts, hXs, hbl, hK, hN, hXs2, hly⟩ := hC
  have hbA : ¬ (fun q : Nat => s.heap.size ≤ q) b := Nat.not_le.mpr hbl
  refine lv_aload_n hx hb dL_law_275 rfl (lv_at hl 2 rfl) ?_
  refine L2.aftC (va_runV (As := []) (rest := []) ⟨hx, hb, hml, hown, hts⟩ (c_X11_quarry l D kA lyc n hn (Ac lyc n) adK adV S _) (cwV 0 hts lg_X11_quarry rfl rfl rfl (by decide +kernel) ⟨(Nat.le_of_ble_eq_true rfl), (Nat.le_of_ble_eq_true rfl)⟩) ⟨k_blindS, hL.recvC hK hn, hL.preS hK hN hXs2 (hstep n S T  hn hR)⟩ rfl rfl hl.1 rfl (lv_room (Nat.le_of_ble_eq_true rfl)) dL_law_276 ⟨by have := hc1; show _ ≤ 600000; omega, by have := hc2; show _ ≤ 7302250; omega⟩) hL (fun r S H locs hw hL => ?_)
  refine lv_aload_n hx hb dL_law_279 rfl (lv_at hl 3 rfl) ?_
  refine L2.aftR (va_runV (As := []) (rest := [.int r]) ⟨hx, hb, hml, hown, hts⟩ (c_X12_quarry l D kA lyr rcs rcs_in (Ac lyr rcs) T _) (cwV 0 hts lg_X12_quarry rfl rfl rfl (by decide +kernel) ⟨(Nat.le_of_ble_eq_true rfl), (Nat.le_of_ble_eq_true rfl)⟩) ⟨k_blind, hL.recvR hK, hL.preR hK hN hw⟩ rfl rfl hl.1 rfl (lv_room (Nat.le_of_ble_eq_true rfl)) dL_law_280 ⟨by have := hc1; show _ ≤ 600000; omega, by have := hc2; show _ ≤ 7302250; omega⟩) hL (fun r2 T H locs hw hL => ?_)
  refine lv_icmp_eq (tgt := 1595) hx hb dL_law_283 (by decide) (fun _ => ?_) (fun hc => absurd hw.1 hc)
  refine W.widen (k := cells + 2) (n := slots + 42) (by omega) (by omega) ?_
  exact next n S T H locs ls hn hw.2 hL hl
/-- a step of view keeps the relation, and the answers are the same -/
def step_view (Rel : List Nat → St → St → Prop) : Prop := ∀ (n : List Nat) (S T : St) (a1 : Int32) (a2 : Int32) (a3 : Int32), (∀ c, c < 59 → c ∈ n) → Rel n S T → wp_X11_view a1 a2 a3 S (fun r S1 => wp_X12_view a1 a2 a3 T (fun r1 T1 => r = r1 ∧ Rel n S1 T1))
set_option maxHeartbeats 4000000 in
set_option maxRecDepth 100000 in
theorem lc_view (hC : LW p s m meth c D kA adK adV lyc lyr b L xs) (hc1 : cells + 2 ≤ 600000) (hc2 : slots + 42 ≤ 7302250) (h5 : ∀ k : Int32, 1 ≤ k → k ≤ 5 → vp_in (x3 + k) L) (hstep : step_view Rel) (hn : ∀ c, c < 59 → c ∈ n) (hR : Rel n S T) (hL : L2 D kA lyc lyr n s.heap S T H locs) (hl : lv_has ls 4 [(3, .int x3), (0, .ref b), (1, .ref (lyc 0)), (2, .ref (lyr 0))])
    (next : ∀ (n1 : List Nat) (S1 T1 : St) (H1 : Heap) (locs1 : List Loc) (ls1 : Array Slot), (∀ c, c < 59 → c ∈ n1) → Rel n1 S1 T1 → L2 D kA lyc lyr n1 s.heap S1 T1 H1 locs1 → lv_has ls1 4 [(3, .int x3), (0, .ref b), (1, .ref (lyc 0)), (2, .ref (lyr 0))] → W p l e room_1 s m #[Value.ref b] below meth c H1 locs1 (cells + 2) (slots + 42) Qw (F0 m 1595 ls1 [])) : W p l e room_1 s m #[Value.ref b] below meth c H locs cells slots Qw (F0 m 288 ls []) := by
  obtain ⟨hx, hb, hml, hown, hts, hXs, hbl, hK, hN, hXs2, hly⟩ := hC
  have hbA : ¬ (fun q : Nat => s.heap.size ≤ q) b := Nat.not_le.mpr hbl
  refine lv_aload_n hx hb dL_law_288 rfl (lv_at hl 2 rfl) ?_
  refine lv_aload_n hx hb dL_law_289 rfl (lv_at hl 1 rfl) ?_
  refine lv_iload_n hx hb dL_law_290 rfl (lv_at hl 0 rfl) ?_
  refine lv_iconst (v := 1) hx hb dL_law_291 (by decide +kernel) ?_
  refine lv_iadd hx hb dL_law_292 ?_
  refine va_sld hx hb hXs hbl hbA hL.2.2.2.2.2 (h5 1 (by decide) (by decide)) dL_law_293 ?_
  refine lv_aload_n hx hb dL_law_294 rfl (lv_at hl 1 rfl) ?_
  refine lv_iload_n hx hb dL_law_295 rfl (lv_at hl 0 rfl) ?_
  refine lv_iconst (v := 2) hx hb dL_law_296 (by decide +kernel) ?_
  refine lv_iadd hx hb dL_law_297 ?_
  refine va_sld hx hb hXs hbl hbA hL.2.2.2.2.2 (h5 2 (by decide) (by decide)) dL_law_298 ?_
  refine lv_aload_n hx hb dL_law_299 rfl (lv_at hl 1 rfl) ?_
  refine lv_iload_n hx hb dL_law_300 rfl (lv_at hl 0 rfl) ?_
  refine lv_iconst (v := 3) hx hb dL_law_301 (by decide +kernel) ?_
  refine lv_iadd hx hb dL_law_302 ?_
  refine va_sld hx hb hXs hbl hbA hL.2.2.2.2.2 (h5 3 (by decide) (by decide)) dL_law_303 ?_
  refine L2.aftC (va_runV (As := [.int (xs (x3 + (1 : Int32)).toNatClampNeg), .int (xs (x3 + (2 : Int32)).toNatClampNeg), .int (xs (x3 + (3 : Int32)).toNatClampNeg)]) (rest := []) ⟨hx, hb, hml, hown, hts⟩ (c_X11_view l D kA lyc n hn (Ac lyc n) (xs (x3 + (1 : Int32)).toNatClampNeg) (xs (x3 + (2 : Int32)).toNatClampNeg) (xs (x3 + (3 : Int32)).toNatClampNeg) S _) (cwV 3 hts lg_X11_view rfl rfl rfl (by decide +kernel) ⟨(Nat.le_of_ble_eq_true rfl), (Nat.le_of_ble_eq_true rfl)⟩) ⟨k_blind, hL.recvC hK hn, hL.preC hK hN (hstep n S T (xs (x3 + (1 : Int32)).toNatClampNeg) (xs (x3 + (2 : Int32)).toNatClampNeg) (xs (x3 + (3 : Int32)).toNatClampNeg) hn hR)⟩ rfl rfl hl.1 rfl (lv_room (Nat.le_of_ble_eq_true rfl)) dL_law_304 ⟨by have := hc1; show _ ≤ 600000; omega, by have := hc2; show _ ≤ 7302250; omega⟩) hL (fun r S H locs hw hL => ?_)
  refine lv_aload_n hx hb dL_law_307 rfl (lv_at hl 3 rfl) ?_
  refine lv_aload_n hx hb dL_law_308 rfl (lv_at hl 1 rfl) ?_
  refine lv_iload_n hx hb dL_law_309 rfl (lv_at hl 0 rfl) ?_
  refine lv_iconst (v := 1) hx hb dL_law_310 (by decide +kernel) ?_
  refine lv_iadd hx hb dL_law_311 ?_
  refine va_sld hx hb hXs hbl hbA hL.2.2.2.2.2 (h5 1 (by decide) (by decide)) dL_law_312 ?_
  refine lv_aload_n hx hb dL_law_313 rfl (lv_at hl 1 rfl) ?_
  refine lv_iload_n hx hb dL_law_314 rfl (lv_at hl 0 rfl) ?_
  refine lv_iconst (v := 2) hx hb dL_law_315 (by decide +kernel) ?_
  refine lv_iadd hx hb dL_law_316 ?_
  refine va_sld hx hb hXs hbl hbA hL.2.2.2.2.2 (h5 2 (by decide) (by decide)) dL_law_317 ?_
  refine lv_aload_n hx hb dL_law_318 rfl (lv_at hl 1 rfl) ?_
  refine lv_iload_n hx hb dL_law_319 rfl (lv_at hl 0 rfl) ?_
  refine lv_iconst (v := 3) hx hb dL_law_320 (by decide +kernel) ?_
  refine lv_iadd hx hb dL_law_321 ?_
  refine va_sld hx hb hXs hbl hbA hL.2.2.2.2.2 (h5 3 (by decide) (by decide)) dL_law_322 ?_
  refine L2.aftR (va_runV (As := [.int (xs (x3 + (1 : Int32)).toNatClampNeg), .int (xs (x3 + (2 : Int32)).toNatClampNeg), .int (xs (x3 + (3 : Int32)).toNatClampNeg)]) (rest := [.int r]) ⟨hx, hb, hml, hown, hts⟩ (c_X12_view l D kA lyr rcs rcs_in (Ac lyr rcs) (xs (x3 + (1 : Int32)).toNatClampNeg) (xs (x3 + (2 : Int32)).toNatClampNeg) (xs (x3 + (3 : Int32)).toNatClampNeg) T _) (cwV 3 hts lg_X12_view rfl rfl rfl (by decide +kernel) ⟨(Nat.le_of_ble_eq_true rfl), (Nat.le_of_ble_eq_true rfl)⟩) ⟨k_blind, hL.recvR hK, hL.preR hK hN hw⟩ rfl rfl hl.1 rfl (lv_room (Nat.le_of_ble_eq_true rfl)) dL_law_323 ⟨by have := hc1; show _ ≤ 600000; omega, by have := hc2; show _ ≤ 7302250; omega⟩) hL (fun r2 T H locs hw hL => ?_)
  refine lv_icmp_eq (tgt := 1595) hx hb dL_law_326 (by decide) (fun _ => ?_) (fun hc => absurd hw.1 hc)
  refine W.widen (k := cells + 2) (n := slots + 42) (by omega) (by omega) ?_
  exact next n S T H locs ls hn hw.2 hL hl
/-- a step of viewOf keeps the relation, and the answers are the same -/
def step_viewOf (Rel : List Nat → St → St → Prop) : Prop := ∀ (n : List Nat) (S T : St) (a1 : Int32) (a2 : Int32), (∀ c, c < 59 → c ∈ n) → Rel n S T → wp_X11_viewOf a1 a2 S (fun r S1 => wp_X12_viewOf a1 a2 T (fun r1 T1 => r = r1 ∧ Rel n S1 T1))
set_option maxHeartbeats 4000000 in
set_option maxRecDepth 100000 in
theorem lc_viewOf (hC : LW p s m meth c D kA adK adV lyc lyr b L xs) (hc1 : cells + 2 ≤ 600000) (hc2 : slots + 42 ≤ 7302250) (h5 : ∀ k : Int32, 1 ≤ k → k ≤ 5 → vp_in (x3 + k) L) (hstep : step_viewOf Rel) (hn : ∀ c, c < 59 → c ∈ n) (hR : Rel n S T) (hL : L2 D kA lyc lyr n s.heap S T H locs) (hl : lv_has ls 4 [(3, .int x3), (0, .ref b), (1, .ref (lyc 0)), (2, .ref (lyr 0))])
    (next : ∀ (n1 : List Nat) (S1 T1 : St) (H1 : Heap) (locs1 : List Loc) (ls1 : Array Slot), (∀ c, c < 59 → c ∈ n1) → Rel n1 S1 T1 → L2 D kA lyc lyr n1 s.heap S1 T1 H1 locs1 → lv_has ls1 4 [(3, .int x3), (0, .ref b), (1, .ref (lyc 0)), (2, .ref (lyr 0))] → W p l e room_1 s m #[Value.ref b] below meth c H1 locs1 (cells + 2) (slots + 42) Qw (F0 m 1595 ls1 [])) : W p l e room_1 s m #[Value.ref b] below meth c H locs cells slots Qw (F0 m 331 ls []) := by
  obtain ⟨hx, hb, hml, hown, hts, hXs, hbl, hK, hN, hXs2, hly⟩ := hC
  have hbA : ¬ (fun q : Nat => s.heap.size ≤ q) b := Nat.not_le.mpr hbl
  refine lv_aload_n hx hb dL_law_331 rfl (lv_at hl 2 rfl) ?_
  refine lv_aload_n hx hb dL_law_332 rfl (lv_at hl 1 rfl) ?_
  refine lv_iload_n hx hb dL_law_333 rfl (lv_at hl 0 rfl) ?_
  refine lv_iconst (v := 1) hx hb dL_law_334 (by decide +kernel) ?_
  refine lv_iadd hx hb dL_law_335 ?_
  refine va_sld hx hb hXs hbl hbA hL.2.2.2.2.2 (h5 1 (by decide) (by decide)) dL_law_336 ?_
  refine lv_aload_n hx hb dL_law_337 rfl (lv_at hl 1 rfl) ?_
  refine lv_iload_n hx hb dL_law_338 rfl (lv_at hl 0 rfl) ?_
  refine lv_iconst (v := 2) hx hb dL_law_339 (by decide +kernel) ?_
  refine lv_iadd hx hb dL_law_340 ?_
  refine va_sld hx hb hXs hbl hbA hL.2.2.2.2.2 (h5 2 (by decide) (by decide)) dL_law_341 ?_
  refine L2.aftC (va_runV (As := [.int (xs (x3 + (1 : Int32)).toNatClampNeg), .int (xs (x3 + (2 : Int32)).toNatClampNeg)]) (rest := []) ⟨hx, hb, hml, hown, hts⟩ (c_X11_viewOf l D kA lyc n hn (Ac lyc n) (xs (x3 + (1 : Int32)).toNatClampNeg) (xs (x3 + (2 : Int32)).toNatClampNeg) S _) (cwV 2 hts lg_X11_viewOf rfl rfl rfl (by decide +kernel) ⟨(Nat.le_of_ble_eq_true rfl), (Nat.le_of_ble_eq_true rfl)⟩) ⟨k_blind, hL.recvC hK hn, hL.preC hK hN (hstep n S T (xs (x3 + (1 : Int32)).toNatClampNeg) (xs (x3 + (2 : Int32)).toNatClampNeg) hn hR)⟩ rfl rfl hl.1 rfl (lv_room (Nat.le_of_ble_eq_true rfl)) dL_law_342 ⟨by have := hc1; show _ ≤ 600000; omega, by have := hc2; show _ ≤ 7302250; omega⟩) hL (fun r S H locs hw hL => ?_)
  refine lv_aload_n hx hb dL_law_345 rfl (lv_at hl 3 rfl) ?_
  refine lv_aload_n hx hb dL_law_346 rfl (lv_at hl 1 rfl) ?_
  refine lv_iload_n hx hb dL_law_347 rfl (lv_at hl 0 rfl) ?_
  refine lv_iconst (v := 1) hx hb dL_law_348 (by decide +kernel) ?_
  refine lv_iadd hx hb dL_law_349 ?_
  refine va_sld hx hb hXs hbl hbA hL.2.2.2.2.2 (h5 1 (by decide) (by decide)) dL_law_350 ?_
  refine lv_aload_n hx hb dL_law_351 rfl (lv_at hl 1 rfl) ?_
  refine lv_iload_n hx hb dL_law_352 rfl (lv_at hl 0 rfl) ?_
  refine lv_iconst (v := 2) hx hb dL_law_353 (by decide +kernel) ?_
  refine lv_iadd hx hb dL_law_354 ?_
  refine va_sld hx hb hXs hbl hbA hL.2.2.2.2.2 (h5 2 (by decide) (by decide)) dL_law_355 ?_
  refine L2.aftR (va_runV (As := [.int (xs (x3 + (1 : Int32)).toNatClampNeg), .int (xs (x3 + (2 : Int32)).toNatClampNeg)]) (rest := [.int r]) ⟨hx, hb, hml, hown, hts⟩ (c_X12_viewOf l D kA lyr rcs rcs_in (Ac lyr rcs) (xs (x3 + (1 : Int32)).toNatClampNeg) (xs (x3 + (2 : Int32)).toNatClampNeg) T _) (cwV 2 hts lg_X12_viewOf rfl rfl rfl (by decide +kernel) ⟨(Nat.le_of_ble_eq_true rfl), (Nat.le_of_ble_eq_true rfl)⟩) ⟨k_blind, hL.recvR hK, hL.preR hK hN hw⟩ rfl rfl hl.1 rfl (lv_room (Nat.le_of_ble_eq_true rfl)) dL_law_356 ⟨by have := hc1; show _ ≤ 600000; omega, by have := hc2; show _ ≤ 7302250; omega⟩) hL (fun r2 T H locs hw hL => ?_)
  refine lv_icmp_eq (tgt := 1595) hx hb dL_law_359 (by decide) (fun _ => ?_) (fun hc => absurd hw.1 hc)
  refine W.widen (k := cells + 2) (n := slots + 42) (by omega) (by omega) ?_
  exact next n S T H locs ls hn hw.2 hL hl
/-- a step of love keeps the relation, and the answers are the same -/
def step_love (Rel : List Nat → St → St → Prop) : Prop := ∀ (n : List Nat) (S T : St) (a1 : Int32) (a2 : Int32) (a3 : Int32), (∀ c, c < 59 → c ∈ n) → Rel n S T → wp_X11_love a1 a2 a3 S (fun r S1 => wp_X12_love a1 a2 a3 T (fun r1 T1 => r = r1 ∧ Rel n S1 T1))
set_option maxHeartbeats 4000000 in
set_option maxRecDepth 100000 in
theorem lc_love (hC : LW p s m meth c D kA adK adV lyc lyr b L xs) (hc1 : cells + 2 ≤ 600000) (hc2 : slots + 42 ≤ 7302250) (h5 : ∀ k : Int32, 1 ≤ k → k ≤ 5 → vp_in (x3 + k) L) (hstep : step_love Rel) (hn : ∀ c, c < 59 → c ∈ n) (hR : Rel n S T) (hL : L2 D kA lyc lyr n s.heap S T H locs) (hl : lv_has ls 4 [(3, .int x3), (0, .ref b), (1, .ref (lyc 0)), (2, .ref (lyr 0))])
    (next : ∀ (n1 : List Nat) (S1 T1 : St) (H1 : Heap) (locs1 : List Loc) (ls1 : Array Slot), (∀ c, c < 59 → c ∈ n1) → Rel n1 S1 T1 → L2 D kA lyc lyr n1 s.heap S1 T1 H1 locs1 → lv_has ls1 4 [(3, .int x3), (0, .ref b), (1, .ref (lyc 0)), (2, .ref (lyr 0))] → W p l e room_1 s m #[Value.ref b] below meth c H1 locs1 (cells + 2) (slots + 42) Qw (F0 m 1595 ls1 [])) : W p l e room_1 s m #[Value.ref b] below meth c H locs cells slots Qw (F0 m 364 ls []) := by
  obtain ⟨hx, hb, hml, hown, hts, hXs, hbl, hK, hN, hXs2, hly⟩ := hC
  have hbA : ¬ (fun q : Nat => s.heap.size ≤ q) b := Nat.not_le.mpr hbl
  refine lv_aload_n hx hb dL_law_364 rfl (lv_at hl 2 rfl) ?_
  refine lv_aload_n hx hb dL_law_365 rfl (lv_at hl 1 rfl) ?_
  refine lv_iload_n hx hb dL_law_366 rfl (lv_at hl 0 rfl) ?_
  refine lv_iconst (v := 1) hx hb dL_law_367 (by decide +kernel) ?_
  refine lv_iadd hx hb dL_law_368 ?_
  refine va_sld hx hb hXs hbl hbA hL.2.2.2.2.2 (h5 1 (by decide) (by decide)) dL_law_369 ?_
  refine lv_aload_n hx hb dL_law_370 rfl (lv_at hl 1 rfl) ?_
  refine lv_iload_n hx hb dL_law_371 rfl (lv_at hl 0 rfl) ?_
  refine lv_iconst (v := 2) hx hb dL_law_372 (by decide +kernel) ?_
  refine lv_iadd hx hb dL_law_373 ?_
  refine va_sld hx hb hXs hbl hbA hL.2.2.2.2.2 (h5 2 (by decide) (by decide)) dL_law_374 ?_
  refine lv_aload_n hx hb dL_law_375 rfl (lv_at hl 1 rfl) ?_
  refine lv_iload_n hx hb dL_law_376 rfl (lv_at hl 0 rfl) ?_
  refine lv_iconst (v := 3) hx hb dL_law_377 (by decide +kernel) ?_
  refine lv_iadd hx hb dL_law_378 ?_
  refine va_sld hx hb hXs hbl hbA hL.2.2.2.2.2 (h5 3 (by decide) (by decide)) dL_law_379 ?_
  refine L2.aftC (va_runV (As := [.int (xs (x3 + (1 : Int32)).toNatClampNeg), .int (xs (x3 + (2 : Int32)).toNatClampNeg), .int (xs (x3 + (3 : Int32)).toNatClampNeg)]) (rest := []) ⟨hx, hb, hml, hown, hts⟩ (c_X11_love l D kA lyc n hn (Ac lyc n) (xs (x3 + (1 : Int32)).toNatClampNeg) (xs (x3 + (2 : Int32)).toNatClampNeg) (xs (x3 + (3 : Int32)).toNatClampNeg) S _) (cwV 3 hts lg_X11_love rfl rfl rfl (by decide +kernel) ⟨(Nat.le_of_ble_eq_true rfl), (Nat.le_of_ble_eq_true rfl)⟩) ⟨k_blind, hL.recvC hK hn, hL.preC hK hN (hstep n S T (xs (x3 + (1 : Int32)).toNatClampNeg) (xs (x3 + (2 : Int32)).toNatClampNeg) (xs (x3 + (3 : Int32)).toNatClampNeg) hn hR)⟩ rfl rfl hl.1 rfl (lv_room (Nat.le_of_ble_eq_true rfl)) dL_law_380 ⟨by have := hc1; show _ ≤ 600000; omega, by have := hc2; show _ ≤ 7302250; omega⟩) hL (fun r S H locs hw hL => ?_)
  refine lv_aload_n hx hb dL_law_383 rfl (lv_at hl 3 rfl) ?_
  refine lv_aload_n hx hb dL_law_384 rfl (lv_at hl 1 rfl) ?_
  refine lv_iload_n hx hb dL_law_385 rfl (lv_at hl 0 rfl) ?_
  refine lv_iconst (v := 1) hx hb dL_law_386 (by decide +kernel) ?_
  refine lv_iadd hx hb dL_law_387 ?_
  refine va_sld hx hb hXs hbl hbA hL.2.2.2.2.2 (h5 1 (by decide) (by decide)) dL_law_388 ?_
  refine lv_aload_n hx hb dL_law_389 rfl (lv_at hl 1 rfl) ?_
  refine lv_iload_n hx hb dL_law_390 rfl (lv_at hl 0 rfl) ?_
  refine lv_iconst (v := 2) hx hb dL_law_391 (by decide +kernel) ?_
  refine lv_iadd hx hb dL_law_392 ?_
  refine va_sld hx hb hXs hbl hbA hL.2.2.2.2.2 (h5 2 (by decide) (by decide)) dL_law_393 ?_
  refine lv_aload_n hx hb dL_law_394 rfl (lv_at hl 1 rfl) ?_
  refine lv_iload_n hx hb dL_law_395 rfl (lv_at hl 0 rfl) ?_
  refine lv_iconst (v := 3) hx hb dL_law_396 (by decide +kernel) ?_
  refine lv_iadd hx hb dL_law_397 ?_
  refine va_sld hx hb hXs hbl hbA hL.2.2.2.2.2 (h5 3 (by decide) (by decide)) dL_law_398 ?_
  refine L2.aftR (va_runV (As := [.int (xs (x3 + (1 : Int32)).toNatClampNeg), .int (xs (x3 + (2 : Int32)).toNatClampNeg), .int (xs (x3 + (3 : Int32)).toNatClampNeg)]) (rest := [.int r]) ⟨hx, hb, hml, hown, hts⟩ (c_X12_love l D kA lyr rcs rcs_in (Ac lyr rcs) (xs (x3 + (1 : Int32)).toNatClampNeg) (xs (x3 + (2 : Int32)).toNatClampNeg) (xs (x3 + (3 : Int32)).toNatClampNeg) T _) (cwV 3 hts lg_X12_love rfl rfl rfl (by decide +kernel) ⟨(Nat.le_of_ble_eq_true rfl), (Nat.le_of_ble_eq_true rfl)⟩) ⟨k_blind, hL.recvR hK, hL.preR hK hN hw⟩ rfl rfl hl.1 rfl (lv_room (Nat.le_of_ble_eq_true rfl)) dL_law_399 ⟨by have := hc1; show _ ≤ 600000; omega, by have := hc2; show _ ≤ 7302250; omega⟩) hL (fun r2 T H locs hw hL => ?_)
  refine lv_icmp_eq (tgt := 1595) hx hb dL_law_402 (by decide) (fun _ => ?_) (fun hc => absurd hw.1 hc)
  refine W.widen (k := cells + 2) (n := slots + 42) (by omega) (by omega) ?_
  exact next n S T H locs ls hn hw.2 hL hl
/-- a step of pane keeps the relation, and the answers are the same -/
def step_pane (Rel : List Nat → St → St → Prop) : Prop := ∀ (n : List Nat) (S T : St) (a1 : Int32) (a2 : Int32), (∀ c, c < 59 → c ∈ n) → Rel n S T → wp_X11_pane a1 a2 S (fun r S1 => wp_X12_pane a1 a2 T (fun r1 T1 => r = r1 ∧ Rel n S1 T1))
set_option maxHeartbeats 4000000 in
set_option maxRecDepth 100000 in
theorem lc_pane (hC : LW p s m meth c D kA adK adV lyc lyr b L xs) (hc1 : cells + 2 ≤ 600000) (hc2 : slots + 42 ≤ 7302250) (h5 : ∀ k : Int32, 1 ≤ k → k ≤ 5 → vp_in (x3 + k) L) (hstep : step_pane Rel) (hn : ∀ c, c < 59 → c ∈ n) (hR : Rel n S T) (hL : L2 D kA lyc lyr n s.heap S T H locs) (hl : lv_has ls 4 [(3, .int x3), (0, .ref b), (1, .ref (lyc 0)), (2, .ref (lyr 0))])
    (next : ∀ (n1 : List Nat) (S1 T1 : St) (H1 : Heap) (locs1 : List Loc) (ls1 : Array Slot), (∀ c, c < 59 → c ∈ n1) → Rel n1 S1 T1 → L2 D kA lyc lyr n1 s.heap S1 T1 H1 locs1 → lv_has ls1 4 [(3, .int x3), (0, .ref b), (1, .ref (lyc 0)), (2, .ref (lyr 0))] → W p l e room_1 s m #[Value.ref b] below meth c H1 locs1 (cells + 2) (slots + 42) Qw (F0 m 1595 ls1 [])) : W p l e room_1 s m #[Value.ref b] below meth c H locs cells slots Qw (F0 m 407 ls []) := by
  obtain ⟨hx, hb, hml, hown, hts, hXs, hbl, hK, hN, hXs2, hly⟩ := hC
  have hbA : ¬ (fun q : Nat => s.heap.size ≤ q) b := Nat.not_le.mpr hbl
  refine lv_aload_n hx hb dL_law_407 rfl (lv_at hl 2 rfl) ?_
  refine lv_aload_n hx hb dL_law_408 rfl (lv_at hl 1 rfl) ?_
  refine lv_iload_n hx hb dL_law_409 rfl (lv_at hl 0 rfl) ?_
  refine lv_iconst (v := 1) hx hb dL_law_410 (by decide +kernel) ?_
  refine lv_iadd hx hb dL_law_411 ?_
  refine va_sld hx hb hXs hbl hbA hL.2.2.2.2.2 (h5 1 (by decide) (by decide)) dL_law_412 ?_
  refine lv_aload_n hx hb dL_law_413 rfl (lv_at hl 1 rfl) ?_
  refine lv_iload_n hx hb dL_law_414 rfl (lv_at hl 0 rfl) ?_
  refine lv_iconst (v := 2) hx hb dL_law_415 (by decide +kernel) ?_
  refine lv_iadd hx hb dL_law_416 ?_
  refine va_sld hx hb hXs hbl hbA hL.2.2.2.2.2 (h5 2 (by decide) (by decide)) dL_law_417 ?_
  refine L2.aftC (va_runV (As := [.int (xs (x3 + (1 : Int32)).toNatClampNeg), .int (xs (x3 + (2 : Int32)).toNatClampNeg)]) (rest := []) ⟨hx, hb, hml, hown, hts⟩ (c_X11_pane l D kA lyc n hn (Ac lyc n) (xs (x3 + (1 : Int32)).toNatClampNeg) (xs (x3 + (2 : Int32)).toNatClampNeg) S _) (cwV 2 hts lg_X11_pane rfl rfl rfl (by decide +kernel) ⟨(Nat.le_of_ble_eq_true rfl), (Nat.le_of_ble_eq_true rfl)⟩) ⟨k_blind, hL.recvC hK hn, hL.preC hK hN (hstep n S T (xs (x3 + (1 : Int32)).toNatClampNeg) (xs (x3 + (2 : Int32)).toNatClampNeg) hn hR)⟩ rfl rfl hl.1 rfl (lv_room (Nat.le_of_ble_eq_true rfl)) dL_law_418 ⟨by have := hc1; show _ ≤ 600000; omega, by have := hc2; show _ ≤ 7302250; omega⟩) hL (fun r S H locs hw hL => ?_)
  refine lv_aload_n hx hb dL_law_421 rfl (lv_at hl 3 rfl) ?_
  refine lv_aload_n hx hb dL_law_422 rfl (lv_at hl 1 rfl) ?_
  refine lv_iload_n hx hb dL_law_423 rfl (lv_at hl 0 rfl) ?_
  refine lv_iconst (v := 1) hx hb dL_law_424 (by decide +kernel) ?_
  refine lv_iadd hx hb dL_law_425 ?_
  refine va_sld hx hb hXs hbl hbA hL.2.2.2.2.2 (h5 1 (by decide) (by decide)) dL_law_426 ?_
  refine lv_aload_n hx hb dL_law_427 rfl (lv_at hl 1 rfl) ?_
  refine lv_iload_n hx hb dL_law_428 rfl (lv_at hl 0 rfl) ?_
  refine lv_iconst (v := 2) hx hb dL_law_429 (by decide +kernel) ?_
  refine lv_iadd hx hb dL_law_430 ?_
  refine va_sld hx hb hXs hbl hbA hL.2.2.2.2.2 (h5 2 (by decide) (by decide)) dL_law_431 ?_
  refine L2.aftR (va_runV (As := [.int (xs (x3 + (1 : Int32)).toNatClampNeg), .int (xs (x3 + (2 : Int32)).toNatClampNeg)]) (rest := [.int r]) ⟨hx, hb, hml, hown, hts⟩ (c_X12_pane l D kA lyr rcs rcs_in (Ac lyr rcs) (xs (x3 + (1 : Int32)).toNatClampNeg) (xs (x3 + (2 : Int32)).toNatClampNeg) T _) (cwV 2 hts lg_X12_pane rfl rfl rfl (by decide +kernel) ⟨(Nat.le_of_ble_eq_true rfl), (Nat.le_of_ble_eq_true rfl)⟩) ⟨k_blind, hL.recvR hK, hL.preR hK hN hw⟩ rfl rfl hl.1 rfl (lv_room (Nat.le_of_ble_eq_true rfl)) dL_law_432 ⟨by have := hc1; show _ ≤ 600000; omega, by have := hc2; show _ ≤ 7302250; omega⟩) hL (fun r2 T H locs hw hL => ?_)
  refine lv_icmp_eq (tgt := 1595) hx hb dL_law_435 (by decide) (fun _ => ?_) (fun hc => absurd hw.1 hc)
  refine W.widen (k := cells + 2) (n := slots + 42) (by omega) (by omega) ?_
  exact next n S T H locs ls hn hw.2 hL hl
/-- a step of paneOf keeps the relation, and the answers are the same -/
def step_paneOf (Rel : List Nat → St → St → Prop) : Prop := ∀ (n : List Nat) (S T : St) (a1 : Int32) (a2 : Int32), (∀ c, c < 59 → c ∈ n) → Rel n S T → wp_X11_paneOf a1 a2 S (fun r S1 => wp_X12_paneOf a1 a2 T (fun r1 T1 => r = r1 ∧ Rel n S1 T1))
set_option maxHeartbeats 4000000 in
set_option maxRecDepth 100000 in
theorem lc_paneOf (hC : LW p s m meth c D kA adK adV lyc lyr b L xs) (hc1 : cells + 2 ≤ 600000) (hc2 : slots + 42 ≤ 7302250) (h5 : ∀ k : Int32, 1 ≤ k → k ≤ 5 → vp_in (x3 + k) L) (hstep : step_paneOf Rel) (hn : ∀ c, c < 59 → c ∈ n) (hR : Rel n S T) (hL : L2 D kA lyc lyr n s.heap S T H locs) (hl : lv_has ls 4 [(3, .int x3), (0, .ref b), (1, .ref (lyc 0)), (2, .ref (lyr 0))])
    (next : ∀ (n1 : List Nat) (S1 T1 : St) (H1 : Heap) (locs1 : List Loc) (ls1 : Array Slot), (∀ c, c < 59 → c ∈ n1) → Rel n1 S1 T1 → L2 D kA lyc lyr n1 s.heap S1 T1 H1 locs1 → lv_has ls1 4 [(3, .int x3), (0, .ref b), (1, .ref (lyc 0)), (2, .ref (lyr 0))] → W p l e room_1 s m #[Value.ref b] below meth c H1 locs1 (cells + 2) (slots + 42) Qw (F0 m 1595 ls1 [])) : W p l e room_1 s m #[Value.ref b] below meth c H locs cells slots Qw (F0 m 440 ls []) := by
  obtain ⟨hx, hb, hml, hown, hts, hXs, hbl, hK, hN, hXs2, hly⟩ := hC
  have hbA : ¬ (fun q : Nat => s.heap.size ≤ q) b := Nat.not_le.mpr hbl
  refine lv_aload_n hx hb dL_law_440 rfl (lv_at hl 2 rfl) ?_
  refine lv_aload_n hx hb dL_law_441 rfl (lv_at hl 1 rfl) ?_
  refine lv_iload_n hx hb dL_law_442 rfl (lv_at hl 0 rfl) ?_
  refine lv_iconst (v := 1) hx hb dL_law_443 (by decide +kernel) ?_
  refine lv_iadd hx hb dL_law_444 ?_
  refine va_sld hx hb hXs hbl hbA hL.2.2.2.2.2 (h5 1 (by decide) (by decide)) dL_law_445 ?_
  refine lv_aload_n hx hb dL_law_446 rfl (lv_at hl 1 rfl) ?_
  refine lv_iload_n hx hb dL_law_447 rfl (lv_at hl 0 rfl) ?_
  refine lv_iconst (v := 2) hx hb dL_law_448 (by decide +kernel) ?_
  refine lv_iadd hx hb dL_law_449 ?_
  refine va_sld hx hb hXs hbl hbA hL.2.2.2.2.2 (h5 2 (by decide) (by decide)) dL_law_450 ?_
  refine L2.aftC (va_runV (As := [.int (xs (x3 + (1 : Int32)).toNatClampNeg), .int (xs (x3 + (2 : Int32)).toNatClampNeg)]) (rest := []) ⟨hx, hb, hml, hown, hts⟩ (c_X11_paneOf l D kA lyc n hn (Ac lyc n) (xs (x3 + (1 : Int32)).toNatClampNeg) (xs (x3 + (2 : Int32)).toNatClampNeg) S _) (cwV 2 hts lg_X11_paneOf rfl rfl rfl (by decide +kernel) ⟨(Nat.le_of_ble_eq_true rfl), (Nat.le_of_ble_eq_true rfl)⟩) ⟨k_blind, hL.recvC hK hn, hL.preC hK hN (hstep n S T (xs (x3 + (1 : Int32)).toNatClampNeg) (xs (x3 + (2 : Int32)).toNatClampNeg) hn hR)⟩ rfl rfl hl.1 rfl (lv_room (Nat.le_of_ble_eq_true rfl)) dL_law_451 ⟨by have := hc1; show _ ≤ 600000; omega, by have := hc2; show _ ≤ 7302250; omega⟩) hL (fun r S H locs hw hL => ?_)
  refine lv_aload_n hx hb dL_law_454 rfl (lv_at hl 3 rfl) ?_
  refine lv_aload_n hx hb dL_law_455 rfl (lv_at hl 1 rfl) ?_
  refine lv_iload_n hx hb dL_law_456 rfl (lv_at hl 0 rfl) ?_
  refine lv_iconst (v := 1) hx hb dL_law_457 (by decide +kernel) ?_
  refine lv_iadd hx hb dL_law_458 ?_
  refine va_sld hx hb hXs hbl hbA hL.2.2.2.2.2 (h5 1 (by decide) (by decide)) dL_law_459 ?_
  refine lv_aload_n hx hb dL_law_460 rfl (lv_at hl 1 rfl) ?_
  refine lv_iload_n hx hb dL_law_461 rfl (lv_at hl 0 rfl) ?_
  refine lv_iconst (v := 2) hx hb dL_law_462 (by decide +kernel) ?_
  refine lv_iadd hx hb dL_law_463 ?_
  refine va_sld hx hb hXs hbl hbA hL.2.2.2.2.2 (h5 2 (by decide) (by decide)) dL_law_464 ?_
  refine L2.aftR (va_runV (As := [.int (xs (x3 + (1 : Int32)).toNatClampNeg), .int (xs (x3 + (2 : Int32)).toNatClampNeg)]) (rest := [.int r]) ⟨hx, hb, hml, hown, hts⟩ (c_X12_paneOf l D kA lyr rcs rcs_in (Ac lyr rcs) (xs (x3 + (1 : Int32)).toNatClampNeg) (xs (x3 + (2 : Int32)).toNatClampNeg) T _) (cwV 2 hts lg_X12_paneOf rfl rfl rfl (by decide +kernel) ⟨(Nat.le_of_ble_eq_true rfl), (Nat.le_of_ble_eq_true rfl)⟩) ⟨k_blind, hL.recvR hK, hL.preR hK hN hw⟩ rfl rfl hl.1 rfl (lv_room (Nat.le_of_ble_eq_true rfl)) dL_law_465 ⟨by have := hc1; show _ ≤ 600000; omega, by have := hc2; show _ ≤ 7302250; omega⟩) hL (fun r2 T H locs hw hL => ?_)
  refine lv_icmp_eq (tgt := 1595) hx hb dL_law_468 (by decide) (fun _ => ?_) (fun hc => absurd hw.1 hc)
  refine W.widen (k := cells + 2) (n := slots + 42) (by omega) (by omega) ?_
  exact next n S T H locs ls hn hw.2 hL hl
/-- a step of glimpse keeps the relation, and the answers are the same -/
def step_glimpse (Rel : List Nat → St → St → Prop) : Prop := ∀ (n : List Nat) (S T : St) (a1 : Int32) (a2 : Int32), (∀ c, c < 59 → c ∈ n) → Rel n S T → wp_X11_glimpse a1 a2 S (fun r S1 => wp_X12_glimpse a1 a2 T (fun r1 T1 => r = r1 ∧ Rel n S1 T1))
set_option maxHeartbeats 4000000 in
set_option maxRecDepth 100000 in
theorem lc_glimpse (hC : LW p s m meth c D kA adK adV lyc lyr b L xs) (hc1 : cells + 2 ≤ 600000) (hc2 : slots + 42 ≤ 7302250) (h5 : ∀ k : Int32, 1 ≤ k → k ≤ 5 → vp_in (x3 + k) L) (hstep : step_glimpse Rel) (hn : ∀ c, c < 59 → c ∈ n) (hR : Rel n S T) (hL : L2 D kA lyc lyr n s.heap S T H locs) (hl : lv_has ls 4 [(3, .int x3), (0, .ref b), (1, .ref (lyc 0)), (2, .ref (lyr 0))])
    (next : ∀ (n1 : List Nat) (S1 T1 : St) (H1 : Heap) (locs1 : List Loc) (ls1 : Array Slot), (∀ c, c < 59 → c ∈ n1) → Rel n1 S1 T1 → L2 D kA lyc lyr n1 s.heap S1 T1 H1 locs1 → lv_has ls1 4 [(3, .int x3), (0, .ref b), (1, .ref (lyc 0)), (2, .ref (lyr 0))] → W p l e room_1 s m #[Value.ref b] below meth c H1 locs1 (cells + 2) (slots + 42) Qw (F0 m 1595 ls1 [])) : W p l e room_1 s m #[Value.ref b] below meth c H locs cells slots Qw (F0 m 473 ls []) := by
  obtain ⟨hx, hb, hml, hown, hts, hXs, hbl, hK, hN, hXs2, hly⟩ := hC
  have hbA : ¬ (fun q : Nat => s.heap.size ≤ q) b := Nat.not_le.mpr hbl
  refine lv_aload_n hx hb dL_law_473 rfl (lv_at hl 2 rfl) ?_
  refine lv_aload_n hx hb dL_law_474 rfl (lv_at hl 1 rfl) ?_
  refine lv_iload_n hx hb dL_law_475 rfl (lv_at hl 0 rfl) ?_
  refine lv_iconst (v := 1) hx hb dL_law_476 (by decide +kernel) ?_
  refine lv_iadd hx hb dL_law_477 ?_
  refine va_sld hx hb hXs hbl hbA hL.2.2.2.2.2 (h5 1 (by decide) (by decide)) dL_law_478 ?_
  refine lv_aload_n hx hb dL_law_479 rfl (lv_at hl 1 rfl) ?_
  refine lv_iload_n hx hb dL_law_480 rfl (lv_at hl 0 rfl) ?_
  refine lv_iconst (v := 2) hx hb dL_law_481 (by decide +kernel) ?_
  refine lv_iadd hx hb dL_law_482 ?_
  refine va_sld hx hb hXs hbl hbA hL.2.2.2.2.2 (h5 2 (by decide) (by decide)) dL_law_483 ?_
  refine L2.aftC (va_runV (As := [.int (xs (x3 + (1 : Int32)).toNatClampNeg), .int (xs (x3 + (2 : Int32)).toNatClampNeg)]) (rest := []) ⟨hx, hb, hml, hown, hts⟩ (c_X11_glimpse l D kA lyc n hn (Ac lyc n) (xs (x3 + (1 : Int32)).toNatClampNeg) (xs (x3 + (2 : Int32)).toNatClampNeg) S _) (cwV 2 hts lg_X11_glimpse rfl rfl rfl (by decide +kernel) ⟨(Nat.le_of_ble_eq_true rfl), (Nat.le_of_ble_eq_true rfl)⟩) ⟨k_blind, hL.recvC hK hn, hL.preC hK hN (hstep n S T (xs (x3 + (1 : Int32)).toNatClampNeg) (xs (x3 + (2 : Int32)).toNatClampNeg) hn hR)⟩ rfl rfl hl.1 rfl (lv_room (Nat.le_of_ble_eq_true rfl)) dL_law_484 ⟨by have := hc1; show _ ≤ 600000; omega, by have := hc2; show _ ≤ 7302250; omega⟩) hL (fun r S H locs hw hL => ?_)
  refine lv_aload_n hx hb dL_law_487 rfl (lv_at hl 3 rfl) ?_
  refine lv_aload_n hx hb dL_law_488 rfl (lv_at hl 1 rfl) ?_
  refine lv_iload_n hx hb dL_law_489 rfl (lv_at hl 0 rfl) ?_
  refine lv_iconst (v := 1) hx hb dL_law_490 (by decide +kernel) ?_
  refine lv_iadd hx hb dL_law_491 ?_
  refine va_sld hx hb hXs hbl hbA hL.2.2.2.2.2 (h5 1 (by decide) (by decide)) dL_law_492 ?_
  refine lv_aload_n hx hb dL_law_493 rfl (lv_at hl 1 rfl) ?_
  refine lv_iload_n hx hb dL_law_494 rfl (lv_at hl 0 rfl) ?_
  refine lv_iconst (v := 2) hx hb dL_law_495 (by decide +kernel) ?_
  refine lv_iadd hx hb dL_law_496 ?_
  refine va_sld hx hb hXs hbl hbA hL.2.2.2.2.2 (h5 2 (by decide) (by decide)) dL_law_497 ?_
  refine L2.aftR (va_runV (As := [.int (xs (x3 + (1 : Int32)).toNatClampNeg), .int (xs (x3 + (2 : Int32)).toNatClampNeg)]) (rest := [.int r]) ⟨hx, hb, hml, hown, hts⟩ (c_X12_glimpse l D kA lyr rcs rcs_in (Ac lyr rcs) (xs (x3 + (1 : Int32)).toNatClampNeg) (xs (x3 + (2 : Int32)).toNatClampNeg) T _) (cwV 2 hts lg_X12_glimpse rfl rfl rfl (by decide +kernel) ⟨(Nat.le_of_ble_eq_true rfl), (Nat.le_of_ble_eq_true rfl)⟩) ⟨k_blind, hL.recvR hK, hL.preR hK hN hw⟩ rfl rfl hl.1 rfl (lv_room (Nat.le_of_ble_eq_true rfl)) dL_law_498 ⟨by have := hc1; show _ ≤ 600000; omega, by have := hc2; show _ ≤ 7302250; omega⟩) hL (fun r2 T H locs hw hL => ?_)
  refine lv_icmp_eq (tgt := 1595) hx hb dL_law_501 (by decide) (fun _ => ?_) (fun hc => absurd hw.1 hc)
  refine W.widen (k := cells + 2) (n := slots + 42) (by omega) (by omega) ?_
  exact next n S T H locs ls hn hw.2 hL hl
/-- a step of hang keeps the relation, and the answers are the same -/
def step_hang (Rel : List Nat → St → St → Prop) : Prop := ∀ (n : List Nat) (S T : St) (a1 : Int32) (a2 : Int32), (∀ c, c < 59 → c ∈ n) → Rel n S T → wp_X11_hang a1 a2 S (fun r S1 => wp_X12_hang a1 a2 T (fun r1 T1 => r = r1 ∧ Rel n S1 T1))
set_option maxHeartbeats 4000000 in
set_option maxRecDepth 100000 in
theorem lc_hang (hC : LW p s m meth c D kA adK adV lyc lyr b L xs) (hc1 : cells + 2 ≤ 600000) (hc2 : slots + 42 ≤ 7302250) (h5 : ∀ k : Int32, 1 ≤ k → k ≤ 5 → vp_in (x3 + k) L) (hstep : step_hang Rel) (hn : ∀ c, c < 59 → c ∈ n) (hR : Rel n S T) (hL : L2 D kA lyc lyr n s.heap S T H locs) (hl : lv_has ls 4 [(3, .int x3), (0, .ref b), (1, .ref (lyc 0)), (2, .ref (lyr 0))])
    (next : ∀ (n1 : List Nat) (S1 T1 : St) (H1 : Heap) (locs1 : List Loc) (ls1 : Array Slot), (∀ c, c < 59 → c ∈ n1) → Rel n1 S1 T1 → L2 D kA lyc lyr n1 s.heap S1 T1 H1 locs1 → lv_has ls1 4 [(3, .int x3), (0, .ref b), (1, .ref (lyc 0)), (2, .ref (lyr 0))] → W p l e room_1 s m #[Value.ref b] below meth c H1 locs1 (cells + 2) (slots + 42) Qw (F0 m 1595 ls1 [])) : W p l e room_1 s m #[Value.ref b] below meth c H locs cells slots Qw (F0 m 506 ls []) := by
  obtain ⟨hx, hb, hml, hown, hts, hXs, hbl, hK, hN, hXs2, hly⟩ := hC
  have hbA : ¬ (fun q : Nat => s.heap.size ≤ q) b := Nat.not_le.mpr hbl
  refine lv_aload_n hx hb dL_law_506 rfl (lv_at hl 2 rfl) ?_
  refine lv_aload_n hx hb dL_law_507 rfl (lv_at hl 1 rfl) ?_
  refine lv_iload_n hx hb dL_law_508 rfl (lv_at hl 0 rfl) ?_
  refine lv_iconst (v := 1) hx hb dL_law_509 (by decide +kernel) ?_
  refine lv_iadd hx hb dL_law_510 ?_
  refine va_sld hx hb hXs hbl hbA hL.2.2.2.2.2 (h5 1 (by decide) (by decide)) dL_law_511 ?_
  refine lv_aload_n hx hb dL_law_512 rfl (lv_at hl 1 rfl) ?_
  refine lv_iload_n hx hb dL_law_513 rfl (lv_at hl 0 rfl) ?_
  refine lv_iconst (v := 2) hx hb dL_law_514 (by decide +kernel) ?_
  refine lv_iadd hx hb dL_law_515 ?_
  refine va_sld hx hb hXs hbl hbA hL.2.2.2.2.2 (h5 2 (by decide) (by decide)) dL_law_516 ?_
  refine L2.aftC (va_runV (As := [.int (xs (x3 + (1 : Int32)).toNatClampNeg), .int (xs (x3 + (2 : Int32)).toNatClampNeg)]) (rest := []) ⟨hx, hb, hml, hown, hts⟩ (c_X11_hang l D kA lyc n hn (Ac lyc n) (xs (x3 + (1 : Int32)).toNatClampNeg) (xs (x3 + (2 : Int32)).toNatClampNeg) S _) (cwV 2 hts lg_X11_hang rfl rfl rfl (by decide +kernel) ⟨(Nat.le_of_ble_eq_true rfl), (Nat.le_of_ble_eq_true rfl)⟩) ⟨k_blind, hL.recvC hK hn, hL.preC hK hN (hstep n S T (xs (x3 + (1 : Int32)).toNatClampNeg) (xs (x3 + (2 : Int32)).toNatClampNeg) hn hR)⟩ rfl rfl hl.1 rfl (lv_room (Nat.le_of_ble_eq_true rfl)) dL_law_517 ⟨by have := hc1; show _ ≤ 600000; omega, by have := hc2; show _ ≤ 7302250; omega⟩) hL (fun r S H locs hw hL => ?_)
  refine lv_aload_n hx hb dL_law_520 rfl (lv_at hl 3 rfl) ?_
  refine lv_aload_n hx hb dL_law_521 rfl (lv_at hl 1 rfl) ?_
  refine lv_iload_n hx hb dL_law_522 rfl (lv_at hl 0 rfl) ?_
  refine lv_iconst (v := 1) hx hb dL_law_523 (by decide +kernel) ?_
  refine lv_iadd hx hb dL_law_524 ?_
  refine va_sld hx hb hXs hbl hbA hL.2.2.2.2.2 (h5 1 (by decide) (by decide)) dL_law_525 ?_
  refine lv_aload_n hx hb dL_law_526 rfl (lv_at hl 1 rfl) ?_
  refine lv_iload_n hx hb dL_law_527 rfl (lv_at hl 0 rfl) ?_
  refine lv_iconst (v := 2) hx hb dL_law_528 (by decide +kernel) ?_
  refine lv_iadd hx hb dL_law_529 ?_
  refine va_sld hx hb hXs hbl hbA hL.2.2.2.2.2 (h5 2 (by decide) (by decide)) dL_law_530 ?_
  refine L2.aftR (va_runV (As := [.int (xs (x3 + (1 : Int32)).toNatClampNeg), .int (xs (x3 + (2 : Int32)).toNatClampNeg)]) (rest := [.int r]) ⟨hx, hb, hml, hown, hts⟩ (c_X12_hang l D kA lyr rcs rcs_in (Ac lyr rcs) (xs (x3 + (1 : Int32)).toNatClampNeg) (xs (x3 + (2 : Int32)).toNatClampNeg) T _) (cwV 2 hts lg_X12_hang rfl rfl rfl (by decide +kernel) ⟨(Nat.le_of_ble_eq_true rfl), (Nat.le_of_ble_eq_true rfl)⟩) ⟨k_blind, hL.recvR hK, hL.preR hK hN hw⟩ rfl rfl hl.1 rfl (lv_room (Nat.le_of_ble_eq_true rfl)) dL_law_531 ⟨by have := hc1; show _ ≤ 600000; omega, by have := hc2; show _ ≤ 7302250; omega⟩) hL (fun r2 T H locs hw hL => ?_)
  refine lv_icmp_eq (tgt := 1595) hx hb dL_law_534 (by decide) (fun _ => ?_) (fun hc => absurd hw.1 hc)
  refine W.widen (k := cells + 2) (n := slots + 42) (by omega) (by omega) ?_
  exact next n S T H locs ls hn hw.2 hL hl
/-- a step of cast keeps the relation, and the answers are the same -/
def step_cast (Rel : List Nat → St → St → Prop) : Prop := ∀ (n : List Nat) (S T : St) (a1 : Int32) (a2 : Int32), (∀ c, c < 59 → c ∈ n) → Rel n S T → wp_X11_cast a1 a2 S (fun r S1 => wp_X12_cast a1 a2 T (fun r1 T1 => r = r1 ∧ Rel n S1 T1))
set_option maxHeartbeats 4000000 in
set_option maxRecDepth 100000 in
theorem lc_cast (hC : LW p s m meth c D kA adK adV lyc lyr b L xs) (hc1 : cells + 2 ≤ 600000) (hc2 : slots + 42 ≤ 7302250) (h5 : ∀ k : Int32, 1 ≤ k → k ≤ 5 → vp_in (x3 + k) L) (hstep : step_cast Rel) (hn : ∀ c, c < 59 → c ∈ n) (hR : Rel n S T) (hL : L2 D kA lyc lyr n s.heap S T H locs) (hl : lv_has ls 4 [(3, .int x3), (0, .ref b), (1, .ref (lyc 0)), (2, .ref (lyr 0))])
    (next : ∀ (n1 : List Nat) (S1 T1 : St) (H1 : Heap) (locs1 : List Loc) (ls1 : Array Slot), (∀ c, c < 59 → c ∈ n1) → Rel n1 S1 T1 → L2 D kA lyc lyr n1 s.heap S1 T1 H1 locs1 → lv_has ls1 4 [(3, .int x3), (0, .ref b), (1, .ref (lyc 0)), (2, .ref (lyr 0))] → W p l e room_1 s m #[Value.ref b] below meth c H1 locs1 (cells + 2) (slots + 42) Qw (F0 m 1595 ls1 [])) : W p l e room_1 s m #[Value.ref b] below meth c H locs cells slots Qw (F0 m 539 ls []) := by
  obtain ⟨hx, hb, hml, hown, hts, hXs, hbl, hK, hN, hXs2, hly⟩ := hC
  have hbA : ¬ (fun q : Nat => s.heap.size ≤ q) b := Nat.not_le.mpr hbl
  refine lv_aload_n hx hb dL_law_539 rfl (lv_at hl 2 rfl) ?_
  refine lv_aload_n hx hb dL_law_540 rfl (lv_at hl 1 rfl) ?_
  refine lv_iload_n hx hb dL_law_541 rfl (lv_at hl 0 rfl) ?_
  refine lv_iconst (v := 1) hx hb dL_law_542 (by decide +kernel) ?_
  refine lv_iadd hx hb dL_law_543 ?_
  refine va_sld hx hb hXs hbl hbA hL.2.2.2.2.2 (h5 1 (by decide) (by decide)) dL_law_544 ?_
  refine lv_aload_n hx hb dL_law_545 rfl (lv_at hl 1 rfl) ?_
  refine lv_iload_n hx hb dL_law_546 rfl (lv_at hl 0 rfl) ?_
  refine lv_iconst (v := 2) hx hb dL_law_547 (by decide +kernel) ?_
  refine lv_iadd hx hb dL_law_548 ?_
  refine va_sld hx hb hXs hbl hbA hL.2.2.2.2.2 (h5 2 (by decide) (by decide)) dL_law_549 ?_
  refine L2.aftC (va_runV (As := [.int (xs (x3 + (1 : Int32)).toNatClampNeg), .int (xs (x3 + (2 : Int32)).toNatClampNeg)]) (rest := []) ⟨hx, hb, hml, hown, hts⟩ (c_X11_cast l D kA lyc n hn (Ac lyc n) (xs (x3 + (1 : Int32)).toNatClampNeg) (xs (x3 + (2 : Int32)).toNatClampNeg) S _) (cwV 2 hts lg_X11_cast rfl rfl rfl (by decide +kernel) ⟨(Nat.le_of_ble_eq_true rfl), (Nat.le_of_ble_eq_true rfl)⟩) ⟨k_blind, hL.recvC hK hn, hL.preC hK hN (hstep n S T (xs (x3 + (1 : Int32)).toNatClampNeg) (xs (x3 + (2 : Int32)).toNatClampNeg) hn hR)⟩ rfl rfl hl.1 rfl (lv_room (Nat.le_of_ble_eq_true rfl)) dL_law_550 ⟨by have := hc1; show _ ≤ 600000; omega, by have := hc2; show _ ≤ 7302250; omega⟩) hL (fun r S H locs hw hL => ?_)
  refine lv_aload_n hx hb dL_law_553 rfl (lv_at hl 3 rfl) ?_
  refine lv_aload_n hx hb dL_law_554 rfl (lv_at hl 1 rfl) ?_
  refine lv_iload_n hx hb dL_law_555 rfl (lv_at hl 0 rfl) ?_
  refine lv_iconst (v := 1) hx hb dL_law_556 (by decide +kernel) ?_
  refine lv_iadd hx hb dL_law_557 ?_
  refine va_sld hx hb hXs hbl hbA hL.2.2.2.2.2 (h5 1 (by decide) (by decide)) dL_law_558 ?_
  refine lv_aload_n hx hb dL_law_559 rfl (lv_at hl 1 rfl) ?_
  refine lv_iload_n hx hb dL_law_560 rfl (lv_at hl 0 rfl) ?_
  refine lv_iconst (v := 2) hx hb dL_law_561 (by decide +kernel) ?_
  refine lv_iadd hx hb dL_law_562 ?_
  refine va_sld hx hb hXs hbl hbA hL.2.2.2.2.2 (h5 2 (by decide) (by decide)) dL_law_563 ?_
  refine L2.aftR (va_runV (As := [.int (xs (x3 + (1 : Int32)).toNatClampNeg), .int (xs (x3 + (2 : Int32)).toNatClampNeg)]) (rest := [.int r]) ⟨hx, hb, hml, hown, hts⟩ (c_X12_cast l D kA lyr rcs rcs_in (Ac lyr rcs) (xs (x3 + (1 : Int32)).toNatClampNeg) (xs (x3 + (2 : Int32)).toNatClampNeg) T _) (cwV 2 hts lg_X12_cast rfl rfl rfl (by decide +kernel) ⟨(Nat.le_of_ble_eq_true rfl), (Nat.le_of_ble_eq_true rfl)⟩) ⟨k_blind, hL.recvR hK, hL.preR hK hN hw⟩ rfl rfl hl.1 rfl (lv_room (Nat.le_of_ble_eq_true rfl)) dL_law_564 ⟨by have := hc1; show _ ≤ 600000; omega, by have := hc2; show _ ≤ 7302250; omega⟩) hL (fun r2 T H locs hw hL => ?_)
  refine lv_icmp_eq (tgt := 1595) hx hb dL_law_567 (by decide) (fun _ => ?_) (fun hc => absurd hw.1 hc)
  refine W.widen (k := cells + 2) (n := slots + 42) (by omega) (by omega) ?_
  exact next n S T H locs ls hn hw.2 hL hl
/-- a step of today keeps the relation, and the answers are the same -/
def step_today (Rel : List Nat → St → St → Prop) : Prop := ∀ (n : List Nat) (S T : St), (∀ c, c < 59 → c ∈ n) → Rel n S T → wp_X11_today S (fun r S1 => wp_X12_today T (fun r1 T1 => r = r1 ∧ Rel n S1 T1))
set_option maxHeartbeats 4000000 in
set_option maxRecDepth 100000 in
theorem lc_today (hC : LW p s m meth c D kA adK adV lyc lyr b L xs) (hc1 : cells + 2 ≤ 600000) (hc2 : slots + 42 ≤ 7302250) (h5 : ∀ k : Int32, 1 ≤ k → k ≤ 5 → vp_in (x3 + k) L) (hstep : step_today Rel) (hn : ∀ c, c < 59 → c ∈ n) (hR : Rel n S T) (hL : L2 D kA lyc lyr n s.heap S T H locs) (hl : lv_has ls 4 [(3, .int x3), (0, .ref b), (1, .ref (lyc 0)), (2, .ref (lyr 0))])
    (next : ∀ (n1 : List Nat) (S1 T1 : St) (H1 : Heap) (locs1 : List Loc) (ls1 : Array Slot), (∀ c, c < 59 → c ∈ n1) → Rel n1 S1 T1 → L2 D kA lyc lyr n1 s.heap S1 T1 H1 locs1 → lv_has ls1 4 [(3, .int x3), (0, .ref b), (1, .ref (lyc 0)), (2, .ref (lyr 0))] → W p l e room_1 s m #[Value.ref b] below meth c H1 locs1 (cells + 2) (slots + 42) Qw (F0 m 1595 ls1 [])) : W p l e room_1 s m #[Value.ref b] below meth c H locs cells slots Qw (F0 m 572 ls []) := by
  obtain ⟨hx, hb, hml, hown, hts, hXs, hbl, hK, hN, hXs2, hly⟩ := hC
  have hbA : ¬ (fun q : Nat => s.heap.size ≤ q) b := Nat.not_le.mpr hbl
  refine lv_aload_n hx hb dL_law_572 rfl (lv_at hl 2 rfl) ?_
  refine L2.aftC (va_runV (As := []) (rest := []) ⟨hx, hb, hml, hown, hts⟩ (c_X11_today l D kA lyc n hn (Ac lyc n) S _) (cwV 0 hts lg_X11_today rfl rfl rfl (by decide +kernel) ⟨(Nat.le_of_ble_eq_true rfl), (Nat.le_of_ble_eq_true rfl)⟩) ⟨k_blind, hL.recvC hK hn, hL.preC hK hN (hstep n S T  hn hR)⟩ rfl rfl hl.1 rfl (lv_room (Nat.le_of_ble_eq_true rfl)) dL_law_573 ⟨by have := hc1; show _ ≤ 600000; omega, by have := hc2; show _ ≤ 7302250; omega⟩) hL (fun r S H locs hw hL => ?_)
  refine lv_aload_n hx hb dL_law_576 rfl (lv_at hl 3 rfl) ?_
  refine L2.aftR (va_runV (As := []) (rest := [.int r]) ⟨hx, hb, hml, hown, hts⟩ (c_X12_today l D kA lyr rcs rcs_in (Ac lyr rcs) T _) (cwV 0 hts lg_X12_today rfl rfl rfl (by decide +kernel) ⟨(Nat.le_of_ble_eq_true rfl), (Nat.le_of_ble_eq_true rfl)⟩) ⟨k_blind, hL.recvR hK, hL.preR hK hN hw⟩ rfl rfl hl.1 rfl (lv_room (Nat.le_of_ble_eq_true rfl)) dL_law_577 ⟨by have := hc1; show _ ≤ 600000; omega, by have := hc2; show _ ≤ 7302250; omega⟩) hL (fun r2 T H locs hw hL => ?_)
  refine lv_icmp_eq (tgt := 1595) hx hb dL_law_580 (by decide) (fun _ => ?_) (fun hc => absurd hw.1 hc)
  refine W.widen (k := cells + 2) (n := slots + 42) (by omega) (by omega) ?_
  exact next n S T H locs ls hn hw.2 hL hl
/-- a step of days keeps the relation, and the answers are the same -/
def step_days (Rel : List Nat → St → St → Prop) : Prop := ∀ (n : List Nat) (S T : St) (a1 : Int32), (∀ c, c < 59 → c ∈ n) → Rel n S T → wp_X11_days a1 S (fun r S1 => wp_X12_days a1 T (fun r1 T1 => r = r1 ∧ Rel n S1 T1))
set_option maxHeartbeats 4000000 in
set_option maxRecDepth 100000 in
theorem lc_days (hC : LW p s m meth c D kA adK adV lyc lyr b L xs) (hc1 : cells + 2 ≤ 600000) (hc2 : slots + 42 ≤ 7302250) (h5 : ∀ k : Int32, 1 ≤ k → k ≤ 5 → vp_in (x3 + k) L) (hstep : step_days Rel) (hn : ∀ c, c < 59 → c ∈ n) (hR : Rel n S T) (hL : L2 D kA lyc lyr n s.heap S T H locs) (hl : lv_has ls 4 [(3, .int x3), (0, .ref b), (1, .ref (lyc 0)), (2, .ref (lyr 0))])
    (next : ∀ (n1 : List Nat) (S1 T1 : St) (H1 : Heap) (locs1 : List Loc) (ls1 : Array Slot), (∀ c, c < 59 → c ∈ n1) → Rel n1 S1 T1 → L2 D kA lyc lyr n1 s.heap S1 T1 H1 locs1 → lv_has ls1 4 [(3, .int x3), (0, .ref b), (1, .ref (lyc 0)), (2, .ref (lyr 0))] → W p l e room_1 s m #[Value.ref b] below meth c H1 locs1 (cells + 2) (slots + 42) Qw (F0 m 1595 ls1 [])) : W p l e room_1 s m #[Value.ref b] below meth c H locs cells slots Qw (F0 m 585 ls []) := by
  obtain ⟨hx, hb, hml, hown, hts, hXs, hbl, hK, hN, hXs2, hly⟩ := hC
  have hbA : ¬ (fun q : Nat => s.heap.size ≤ q) b := Nat.not_le.mpr hbl
  refine lv_aload_n hx hb dL_law_585 rfl (lv_at hl 2 rfl) ?_
  refine lv_aload_n hx hb dL_law_586 rfl (lv_at hl 1 rfl) ?_
  refine lv_iload_n hx hb dL_law_587 rfl (lv_at hl 0 rfl) ?_
  refine lv_iconst (v := 1) hx hb dL_law_588 (by decide +kernel) ?_
  refine lv_iadd hx hb dL_law_589 ?_
  refine va_sld hx hb hXs hbl hbA hL.2.2.2.2.2 (h5 1 (by decide) (by decide)) dL_law_590 ?_
  refine L2.aftC (va_runV (As := [.int (xs (x3 + (1 : Int32)).toNatClampNeg)]) (rest := []) ⟨hx, hb, hml, hown, hts⟩ (c_X11_days l D kA lyc n hn (Ac lyc n) (xs (x3 + (1 : Int32)).toNatClampNeg) S _) (cwV 1 hts lg_X11_days rfl rfl rfl (by decide +kernel) ⟨(Nat.le_of_ble_eq_true rfl), (Nat.le_of_ble_eq_true rfl)⟩) ⟨k_blind, hL.recvC hK hn, hL.preC hK hN (hstep n S T (xs (x3 + (1 : Int32)).toNatClampNeg) hn hR)⟩ rfl rfl hl.1 rfl (lv_room (Nat.le_of_ble_eq_true rfl)) dL_law_591 ⟨by have := hc1; show _ ≤ 600000; omega, by have := hc2; show _ ≤ 7302250; omega⟩) hL (fun r S H locs hw hL => ?_)
  refine lv_aload_n hx hb dL_law_594 rfl (lv_at hl 3 rfl) ?_
  refine lv_aload_n hx hb dL_law_595 rfl (lv_at hl 1 rfl) ?_
  refine lv_iload_n hx hb dL_law_596 rfl (lv_at hl 0 rfl) ?_
  refine lv_iconst (v := 1) hx hb dL_law_597 (by decide +kernel) ?_
  refine lv_iadd hx hb dL_law_598 ?_
  refine va_sld hx hb hXs hbl hbA hL.2.2.2.2.2 (h5 1 (by decide) (by decide)) dL_law_599 ?_
  refine L2.aftR (va_runV (As := [.int (xs (x3 + (1 : Int32)).toNatClampNeg)]) (rest := [.int r]) ⟨hx, hb, hml, hown, hts⟩ (c_X12_days l D kA lyr rcs rcs_in (Ac lyr rcs) (xs (x3 + (1 : Int32)).toNatClampNeg) T _) (cwV 1 hts lg_X12_days rfl rfl rfl (by decide +kernel) ⟨(Nat.le_of_ble_eq_true rfl), (Nat.le_of_ble_eq_true rfl)⟩) ⟨k_blind, hL.recvR hK, hL.preR hK hN hw⟩ rfl rfl hl.1 rfl (lv_room (Nat.le_of_ble_eq_true rfl)) dL_law_600 ⟨by have := hc1; show _ ≤ 600000; omega, by have := hc2; show _ ≤ 7302250; omega⟩) hL (fun r2 T H locs hw hL => ?_)
  refine lv_icmp_eq (tgt := 1595) hx hb dL_law_603 (by decide) (fun _ => ?_) (fun hc => absurd hw.1 hc)
  refine W.widen (k := cells + 2) (n := slots + 42) (by omega) (by omega) ?_
  exact next n S T H locs ls hn hw.2 hL hl
/-- a step of turn keeps the relation, and the answers are the same -/
def step_turn (Rel : List Nat → St → St → Prop) : Prop := ∀ (n : List Nat) (S T : St) (a1 : Int32), (∀ c, c < 59 → c ∈ n) → Rel n S T → wp_X11_turn a1 S (fun r S1 => wp_X12_turn a1 T (fun r1 T1 => r = r1 ∧ Rel n S1 T1))
set_option maxHeartbeats 4000000 in
set_option maxRecDepth 100000 in
theorem lc_turn (hC : LW p s m meth c D kA adK adV lyc lyr b L xs) (hc1 : cells + 2 ≤ 600000) (hc2 : slots + 42 ≤ 7302250) (h5 : ∀ k : Int32, 1 ≤ k → k ≤ 5 → vp_in (x3 + k) L) (hstep : step_turn Rel) (hn : ∀ c, c < 59 → c ∈ n) (hR : Rel n S T) (hL : L2 D kA lyc lyr n s.heap S T H locs) (hl : lv_has ls 4 [(3, .int x3), (0, .ref b), (1, .ref (lyc 0)), (2, .ref (lyr 0))])
    (next : ∀ (n1 : List Nat) (S1 T1 : St) (H1 : Heap) (locs1 : List Loc) (ls1 : Array Slot), (∀ c, c < 59 → c ∈ n1) → Rel n1 S1 T1 → L2 D kA lyc lyr n1 s.heap S1 T1 H1 locs1 → lv_has ls1 4 [(3, .int x3), (0, .ref b), (1, .ref (lyc 0)), (2, .ref (lyr 0))] → W p l e room_1 s m #[Value.ref b] below meth c H1 locs1 (cells + 2) (slots + 42) Qw (F0 m 1595 ls1 [])) : W p l e room_1 s m #[Value.ref b] below meth c H locs cells slots Qw (F0 m 608 ls []) := by
  obtain ⟨hx, hb, hml, hown, hts, hXs, hbl, hK, hN, hXs2, hly⟩ := hC
  have hbA : ¬ (fun q : Nat => s.heap.size ≤ q) b := Nat.not_le.mpr hbl
  refine lv_aload_n hx hb dL_law_608 rfl (lv_at hl 2 rfl) ?_
  refine lv_aload_n hx hb dL_law_609 rfl (lv_at hl 1 rfl) ?_
  refine lv_iload_n hx hb dL_law_610 rfl (lv_at hl 0 rfl) ?_
  refine lv_iconst (v := 1) hx hb dL_law_611 (by decide +kernel) ?_
  refine lv_iadd hx hb dL_law_612 ?_
  refine va_sld hx hb hXs hbl hbA hL.2.2.2.2.2 (h5 1 (by decide) (by decide)) dL_law_613 ?_
  refine L2.aftC (va_runV (As := [.int (xs (x3 + (1 : Int32)).toNatClampNeg)]) (rest := []) ⟨hx, hb, hml, hown, hts⟩ (c_X11_turn l D kA lyc n hn (Ac lyc n) (xs (x3 + (1 : Int32)).toNatClampNeg) S _) (cwV 1 hts lg_X11_turn rfl rfl rfl (by decide +kernel) ⟨(Nat.le_of_ble_eq_true rfl), (Nat.le_of_ble_eq_true rfl)⟩) ⟨k_blind, hL.recvC hK hn, hL.preC hK hN (hstep n S T (xs (x3 + (1 : Int32)).toNatClampNeg) hn hR)⟩ rfl rfl hl.1 rfl (lv_room (Nat.le_of_ble_eq_true rfl)) dL_law_614 ⟨by have := hc1; show _ ≤ 600000; omega, by have := hc2; show _ ≤ 7302250; omega⟩) hL (fun r S H locs hw hL => ?_)
  refine lv_aload_n hx hb dL_law_617 rfl (lv_at hl 3 rfl) ?_
  refine lv_aload_n hx hb dL_law_618 rfl (lv_at hl 1 rfl) ?_
  refine lv_iload_n hx hb dL_law_619 rfl (lv_at hl 0 rfl) ?_
  refine lv_iconst (v := 1) hx hb dL_law_620 (by decide +kernel) ?_
  refine lv_iadd hx hb dL_law_621 ?_
  refine va_sld hx hb hXs hbl hbA hL.2.2.2.2.2 (h5 1 (by decide) (by decide)) dL_law_622 ?_
  refine L2.aftR (va_runV (As := [.int (xs (x3 + (1 : Int32)).toNatClampNeg)]) (rest := [.int r]) ⟨hx, hb, hml, hown, hts⟩ (c_X12_turn l D kA lyr rcs rcs_in (Ac lyr rcs) (xs (x3 + (1 : Int32)).toNatClampNeg) T _) (cwV 1 hts lg_X12_turn rfl rfl rfl (by decide +kernel) ⟨(Nat.le_of_ble_eq_true rfl), (Nat.le_of_ble_eq_true rfl)⟩) ⟨k_blind, hL.recvR hK, hL.preR hK hN hw⟩ rfl rfl hl.1 rfl (lv_room (Nat.le_of_ble_eq_true rfl)) dL_law_623 ⟨by have := hc1; show _ ≤ 600000; omega, by have := hc2; show _ ≤ 7302250; omega⟩) hL (fun r2 T H locs hw hL => ?_)
  refine lv_icmp_eq (tgt := 1595) hx hb dL_law_626 (by decide) (fun _ => ?_) (fun hc => absurd hw.1 hc)
  refine W.widen (k := cells + 2) (n := slots + 42) (by omega) (by omega) ?_
  exact next n S T H locs ls hn hw.2 hL hl
/-- a step of cut keeps the relation, and the answers are the same -/
def step_cut (Rel : List Nat → St → St → Prop) : Prop := ∀ (n : List Nat) (S T : St) (a1 : Int32) (a2 : Int32), (∀ c, c < 59 → c ∈ n) → Rel n S T → wp_X11_cut a1 a2 S (fun r S1 => wp_X12_cut a1 a2 T (fun r1 T1 => r = r1 ∧ Rel n S1 T1))
set_option maxHeartbeats 4000000 in
set_option maxRecDepth 100000 in
theorem lc_cut (hC : LW p s m meth c D kA adK adV lyc lyr b L xs) (hc1 : cells + 2 ≤ 600000) (hc2 : slots + 42 ≤ 7302250) (h5 : ∀ k : Int32, 1 ≤ k → k ≤ 5 → vp_in (x3 + k) L) (hstep : step_cut Rel) (hn : ∀ c, c < 59 → c ∈ n) (hR : Rel n S T) (hL : L2 D kA lyc lyr n s.heap S T H locs) (hl : lv_has ls 4 [(3, .int x3), (0, .ref b), (1, .ref (lyc 0)), (2, .ref (lyr 0))])
    (next : ∀ (n1 : List Nat) (S1 T1 : St) (H1 : Heap) (locs1 : List Loc) (ls1 : Array Slot), (∀ c, c < 59 → c ∈ n1) → Rel n1 S1 T1 → L2 D kA lyc lyr n1 s.heap S1 T1 H1 locs1 → lv_has ls1 4 [(3, .int x3), (0, .ref b), (1, .ref (lyc 0)), (2, .ref (lyr 0))] → W p l e room_1 s m #[Value.ref b] below meth c H1 locs1 (cells + 2) (slots + 42) Qw (F0 m 1595 ls1 [])) : W p l e room_1 s m #[Value.ref b] below meth c H locs cells slots Qw (F0 m 631 ls []) := by
  obtain ⟨hx, hb, hml, hown, hts, hXs, hbl, hK, hN, hXs2, hly⟩ := hC
  have hbA : ¬ (fun q : Nat => s.heap.size ≤ q) b := Nat.not_le.mpr hbl
  refine lv_aload_n hx hb dL_law_631 rfl (lv_at hl 2 rfl) ?_
  refine lv_aload_n hx hb dL_law_632 rfl (lv_at hl 1 rfl) ?_
  refine lv_iload_n hx hb dL_law_633 rfl (lv_at hl 0 rfl) ?_
  refine lv_iconst (v := 1) hx hb dL_law_634 (by decide +kernel) ?_
  refine lv_iadd hx hb dL_law_635 ?_
  refine va_sld hx hb hXs hbl hbA hL.2.2.2.2.2 (h5 1 (by decide) (by decide)) dL_law_636 ?_
  refine lv_aload_n hx hb dL_law_637 rfl (lv_at hl 1 rfl) ?_
  refine lv_iload_n hx hb dL_law_638 rfl (lv_at hl 0 rfl) ?_
  refine lv_iconst (v := 2) hx hb dL_law_639 (by decide +kernel) ?_
  refine lv_iadd hx hb dL_law_640 ?_
  refine va_sld hx hb hXs hbl hbA hL.2.2.2.2.2 (h5 2 (by decide) (by decide)) dL_law_641 ?_
  refine L2.aftC (va_runV (As := [.int (xs (x3 + (1 : Int32)).toNatClampNeg), .int (xs (x3 + (2 : Int32)).toNatClampNeg)]) (rest := []) ⟨hx, hb, hml, hown, hts⟩ (c_X11_cut l D kA lyc n hn (Ac lyc n) (xs (x3 + (1 : Int32)).toNatClampNeg) (xs (x3 + (2 : Int32)).toNatClampNeg) S _) (cwV 2 hts lg_X11_cut rfl rfl rfl (by decide +kernel) ⟨(Nat.le_of_ble_eq_true rfl), (Nat.le_of_ble_eq_true rfl)⟩) ⟨k_blind, hL.recvC hK hn, hL.preC hK hN (hstep n S T (xs (x3 + (1 : Int32)).toNatClampNeg) (xs (x3 + (2 : Int32)).toNatClampNeg) hn hR)⟩ rfl rfl hl.1 rfl (lv_room (Nat.le_of_ble_eq_true rfl)) dL_law_642 ⟨by have := hc1; show _ ≤ 600000; omega, by have := hc2; show _ ≤ 7302250; omega⟩) hL (fun r S H locs hw hL => ?_)
  refine lv_aload_n hx hb dL_law_645 rfl (lv_at hl 3 rfl) ?_
  refine lv_aload_n hx hb dL_law_646 rfl (lv_at hl 1 rfl) ?_
  refine lv_iload_n hx hb dL_law_647 rfl (lv_at hl 0 rfl) ?_
  refine lv_iconst (v := 1) hx hb dL_law_648 (by decide +kernel) ?_
  refine lv_iadd hx hb dL_law_649 ?_
  refine va_sld hx hb hXs hbl hbA hL.2.2.2.2.2 (h5 1 (by decide) (by decide)) dL_law_650 ?_
  refine lv_aload_n hx hb dL_law_651 rfl (lv_at hl 1 rfl) ?_
  refine lv_iload_n hx hb dL_law_652 rfl (lv_at hl 0 rfl) ?_
  refine lv_iconst (v := 2) hx hb dL_law_653 (by decide +kernel) ?_
  refine lv_iadd hx hb dL_law_654 ?_
  refine va_sld hx hb hXs hbl hbA hL.2.2.2.2.2 (h5 2 (by decide) (by decide)) dL_law_655 ?_
  refine L2.aftR (va_runV (As := [.int (xs (x3 + (1 : Int32)).toNatClampNeg), .int (xs (x3 + (2 : Int32)).toNatClampNeg)]) (rest := [.int r]) ⟨hx, hb, hml, hown, hts⟩ (c_X12_cut l D kA lyr rcs rcs_in (Ac lyr rcs) (xs (x3 + (1 : Int32)).toNatClampNeg) (xs (x3 + (2 : Int32)).toNatClampNeg) T _) (cwV 2 hts lg_X12_cut rfl rfl rfl (by decide +kernel) ⟨(Nat.le_of_ble_eq_true rfl), (Nat.le_of_ble_eq_true rfl)⟩) ⟨k_blind, hL.recvR hK, hL.preR hK hN hw⟩ rfl rfl hl.1 rfl (lv_room (Nat.le_of_ble_eq_true rfl)) dL_law_656 ⟨by have := hc1; show _ ≤ 600000; omega, by have := hc2; show _ ≤ 7302250; omega⟩) hL (fun r2 T H locs hw hL => ?_)
  refine lv_icmp_eq (tgt := 1595) hx hb dL_law_659 (by decide) (fun _ => ?_) (fun hc => absurd hw.1 hc)
  refine W.widen (k := cells + 2) (n := slots + 42) (by omega) (by omega) ?_
  exact next n S T H locs ls hn hw.2 hL hl
/-- a step of lay keeps the relation, and the answers are the same -/
def step_lay (Rel : List Nat → St → St → Prop) : Prop := ∀ (n : List Nat) (S T : St) (a1 : Int32) (a2 : Int32), (∀ c, c < 59 → c ∈ n) → Rel n S T → wp_X11_lay a1 a2 S (fun r S1 => wp_X12_lay a1 a2 T (fun r1 T1 => r = r1 ∧ Rel n S1 T1))
set_option maxHeartbeats 4000000 in
set_option maxRecDepth 100000 in
theorem lc_lay (hC : LW p s m meth c D kA adK adV lyc lyr b L xs) (hc1 : cells + 2 ≤ 600000) (hc2 : slots + 42 ≤ 7302250) (h5 : ∀ k : Int32, 1 ≤ k → k ≤ 5 → vp_in (x3 + k) L) (hstep : step_lay Rel) (hn : ∀ c, c < 59 → c ∈ n) (hR : Rel n S T) (hL : L2 D kA lyc lyr n s.heap S T H locs) (hl : lv_has ls 4 [(3, .int x3), (0, .ref b), (1, .ref (lyc 0)), (2, .ref (lyr 0))])
    (next : ∀ (n1 : List Nat) (S1 T1 : St) (H1 : Heap) (locs1 : List Loc) (ls1 : Array Slot), (∀ c, c < 59 → c ∈ n1) → Rel n1 S1 T1 → L2 D kA lyc lyr n1 s.heap S1 T1 H1 locs1 → lv_has ls1 4 [(3, .int x3), (0, .ref b), (1, .ref (lyc 0)), (2, .ref (lyr 0))] → W p l e room_1 s m #[Value.ref b] below meth c H1 locs1 (cells + 2) (slots + 42) Qw (F0 m 1595 ls1 [])) : W p l e room_1 s m #[Value.ref b] below meth c H locs cells slots Qw (F0 m 664 ls []) := by
  obtain ⟨hx, hb, hml, hown, hts, hXs, hbl, hK, hN, hXs2, hly⟩ := hC
  have hbA : ¬ (fun q : Nat => s.heap.size ≤ q) b := Nat.not_le.mpr hbl
  refine lv_aload_n hx hb dL_law_664 rfl (lv_at hl 2 rfl) ?_
  refine lv_aload_n hx hb dL_law_665 rfl (lv_at hl 1 rfl) ?_
  refine lv_iload_n hx hb dL_law_666 rfl (lv_at hl 0 rfl) ?_
  refine lv_iconst (v := 1) hx hb dL_law_667 (by decide +kernel) ?_
  refine lv_iadd hx hb dL_law_668 ?_
  refine va_sld hx hb hXs hbl hbA hL.2.2.2.2.2 (h5 1 (by decide) (by decide)) dL_law_669 ?_
  refine lv_aload_n hx hb dL_law_670 rfl (lv_at hl 1 rfl) ?_
  refine lv_iload_n hx hb dL_law_671 rfl (lv_at hl 0 rfl) ?_
  refine lv_iconst (v := 2) hx hb dL_law_672 (by decide +kernel) ?_
  refine lv_iadd hx hb dL_law_673 ?_
  refine va_sld hx hb hXs hbl hbA hL.2.2.2.2.2 (h5 2 (by decide) (by decide)) dL_law_674 ?_
  refine L2.aftC (va_runV (As := [.int (xs (x3 + (1 : Int32)).toNatClampNeg), .int (xs (x3 + (2 : Int32)).toNatClampNeg)]) (rest := []) ⟨hx, hb, hml, hown, hts⟩ (c_X11_lay l D kA lyc n hn (Ac lyc n) (xs (x3 + (1 : Int32)).toNatClampNeg) (xs (x3 + (2 : Int32)).toNatClampNeg) S _) (cwV 2 hts lg_X11_lay rfl rfl rfl (by decide +kernel) ⟨(Nat.le_of_ble_eq_true rfl), (Nat.le_of_ble_eq_true rfl)⟩) ⟨k_blind, hL.recvC hK hn, hL.preC hK hN (hstep n S T (xs (x3 + (1 : Int32)).toNatClampNeg) (xs (x3 + (2 : Int32)).toNatClampNeg) hn hR)⟩ rfl rfl hl.1 rfl (lv_room (Nat.le_of_ble_eq_true rfl)) dL_law_675 ⟨by have := hc1; show _ ≤ 600000; omega, by have := hc2; show _ ≤ 7302250; omega⟩) hL (fun r S H locs hw hL => ?_)
  refine lv_aload_n hx hb dL_law_678 rfl (lv_at hl 3 rfl) ?_
  refine lv_aload_n hx hb dL_law_679 rfl (lv_at hl 1 rfl) ?_
  refine lv_iload_n hx hb dL_law_680 rfl (lv_at hl 0 rfl) ?_
  refine lv_iconst (v := 1) hx hb dL_law_681 (by decide +kernel) ?_
  refine lv_iadd hx hb dL_law_682 ?_
  refine va_sld hx hb hXs hbl hbA hL.2.2.2.2.2 (h5 1 (by decide) (by decide)) dL_law_683 ?_
  refine lv_aload_n hx hb dL_law_684 rfl (lv_at hl 1 rfl) ?_
  refine lv_iload_n hx hb dL_law_685 rfl (lv_at hl 0 rfl) ?_
  refine lv_iconst (v := 2) hx hb dL_law_686 (by decide +kernel) ?_
  refine lv_iadd hx hb dL_law_687 ?_
  refine va_sld hx hb hXs hbl hbA hL.2.2.2.2.2 (h5 2 (by decide) (by decide)) dL_law_688 ?_
  refine L2.aftR (va_runV (As := [.int (xs (x3 + (1 : Int32)).toNatClampNeg), .int (xs (x3 + (2 : Int32)).toNatClampNeg)]) (rest := [.int r]) ⟨hx, hb, hml, hown, hts⟩ (c_X12_lay l D kA lyr rcs rcs_in (Ac lyr rcs) (xs (x3 + (1 : Int32)).toNatClampNeg) (xs (x3 + (2 : Int32)).toNatClampNeg) T _) (cwV 2 hts lg_X12_lay rfl rfl rfl (by decide +kernel) ⟨(Nat.le_of_ble_eq_true rfl), (Nat.le_of_ble_eq_true rfl)⟩) ⟨k_blind, hL.recvR hK, hL.preR hK hN hw⟩ rfl rfl hl.1 rfl (lv_room (Nat.le_of_ble_eq_true rfl)) dL_law_689 ⟨by have := hc1; show _ ≤ 600000; omega, by have := hc2; show _ ≤ 7302250; omega⟩) hL (fun r2 T H locs hw hL => ?_)
  refine lv_icmp_eq (tgt := 1595) hx hb dL_law_692 (by decide) (fun _ => ?_) (fun hc => absurd hw.1 hc)
  refine W.widen (k := cells + 2) (n := slots + 42) (by omega) (by omega) ?_
  exact next n S T H locs ls hn hw.2 hL hl
/-- a step of drop keeps the relation, and the answers are the same -/
def step_drop (Rel : List Nat → St → St → Prop) : Prop := ∀ (n : List Nat) (S T : St) (a1 : Int32), (∀ c, c < 59 → c ∈ n) → Rel n S T → wp_X11_drop a1 S (fun r S1 => wp_X12_drop a1 T (fun r1 T1 => r = r1 ∧ Rel n S1 T1))
set_option maxHeartbeats 4000000 in
set_option maxRecDepth 100000 in
theorem lc_drop (hC : LW p s m meth c D kA adK adV lyc lyr b L xs) (hc1 : cells + 2 ≤ 600000) (hc2 : slots + 42 ≤ 7302250) (h5 : ∀ k : Int32, 1 ≤ k → k ≤ 5 → vp_in (x3 + k) L) (hstep : step_drop Rel) (hn : ∀ c, c < 59 → c ∈ n) (hR : Rel n S T) (hL : L2 D kA lyc lyr n s.heap S T H locs) (hl : lv_has ls 4 [(3, .int x3), (0, .ref b), (1, .ref (lyc 0)), (2, .ref (lyr 0))])
    (next : ∀ (n1 : List Nat) (S1 T1 : St) (H1 : Heap) (locs1 : List Loc) (ls1 : Array Slot), (∀ c, c < 59 → c ∈ n1) → Rel n1 S1 T1 → L2 D kA lyc lyr n1 s.heap S1 T1 H1 locs1 → lv_has ls1 4 [(3, .int x3), (0, .ref b), (1, .ref (lyc 0)), (2, .ref (lyr 0))] → W p l e room_1 s m #[Value.ref b] below meth c H1 locs1 (cells + 2) (slots + 42) Qw (F0 m 1595 ls1 [])) : W p l e room_1 s m #[Value.ref b] below meth c H locs cells slots Qw (F0 m 697 ls []) := by
  obtain ⟨hx, hb, hml, hown, hts, hXs, hbl, hK, hN, hXs2, hly⟩ := hC
  have hbA : ¬ (fun q : Nat => s.heap.size ≤ q) b := Nat.not_le.mpr hbl
  refine lv_aload_n hx hb dL_law_697 rfl (lv_at hl 2 rfl) ?_
  refine lv_aload_n hx hb dL_law_698 rfl (lv_at hl 1 rfl) ?_
  refine lv_iload_n hx hb dL_law_699 rfl (lv_at hl 0 rfl) ?_
  refine lv_iconst (v := 1) hx hb dL_law_700 (by decide +kernel) ?_
  refine lv_iadd hx hb dL_law_701 ?_
  refine va_sld hx hb hXs hbl hbA hL.2.2.2.2.2 (h5 1 (by decide) (by decide)) dL_law_702 ?_
  refine L2.aftC (va_runV (As := [.int (xs (x3 + (1 : Int32)).toNatClampNeg)]) (rest := []) ⟨hx, hb, hml, hown, hts⟩ (c_X11_drop l D kA lyc n hn (Ac lyc n) (xs (x3 + (1 : Int32)).toNatClampNeg) S _) (cwV 1 hts lg_X11_drop rfl rfl rfl (by decide +kernel) ⟨(Nat.le_of_ble_eq_true rfl), (Nat.le_of_ble_eq_true rfl)⟩) ⟨k_blind, hL.recvC hK hn, hL.preC hK hN (hstep n S T (xs (x3 + (1 : Int32)).toNatClampNeg) hn hR)⟩ rfl rfl hl.1 rfl (lv_room (Nat.le_of_ble_eq_true rfl)) dL_law_703 ⟨by have := hc1; show _ ≤ 600000; omega, by have := hc2; show _ ≤ 7302250; omega⟩) hL (fun r S H locs hw hL => ?_)
  refine lv_aload_n hx hb dL_law_706 rfl (lv_at hl 3 rfl) ?_
  refine lv_aload_n hx hb dL_law_707 rfl (lv_at hl 1 rfl) ?_
  refine lv_iload_n hx hb dL_law_708 rfl (lv_at hl 0 rfl) ?_
  refine lv_iconst (v := 1) hx hb dL_law_709 (by decide +kernel) ?_
  refine lv_iadd hx hb dL_law_710 ?_
  refine va_sld hx hb hXs hbl hbA hL.2.2.2.2.2 (h5 1 (by decide) (by decide)) dL_law_711 ?_
  refine L2.aftR (va_runV (As := [.int (xs (x3 + (1 : Int32)).toNatClampNeg)]) (rest := [.int r]) ⟨hx, hb, hml, hown, hts⟩ (c_X12_drop l D kA lyr rcs rcs_in (Ac lyr rcs) (xs (x3 + (1 : Int32)).toNatClampNeg) T _) (cwV 1 hts lg_X12_drop rfl rfl rfl (by decide +kernel) ⟨(Nat.le_of_ble_eq_true rfl), (Nat.le_of_ble_eq_true rfl)⟩) ⟨k_blind, hL.recvR hK, hL.preR hK hN hw⟩ rfl rfl hl.1 rfl (lv_room (Nat.le_of_ble_eq_true rfl)) dL_law_712 ⟨by have := hc1; show _ ≤ 600000; omega, by have := hc2; show _ ≤ 7302250; omega⟩) hL (fun r2 T H locs hw hL => ?_)
  refine lv_icmp_eq (tgt := 1595) hx hb dL_law_715 (by decide) (fun _ => ?_) (fun hc => absurd hw.1 hc)
  refine W.widen (k := cells + 2) (n := slots + 42) (by omega) (by omega) ?_
  exact next n S T H locs ls hn hw.2 hL hl
/-- a step of dark keeps the relation, and the answers are the same -/
def step_dark (Rel : List Nat → St → St → Prop) : Prop := ∀ (n : List Nat) (S T : St) (a1 : Int32), (∀ c, c < 59 → c ∈ n) → Rel n S T → wp_X11_dark a1 S (fun r S1 => wp_X12_dark a1 T (fun r1 T1 => r = r1 ∧ Rel n S1 T1))
set_option maxHeartbeats 4000000 in
set_option maxRecDepth 100000 in
theorem lc_dark (hC : LW p s m meth c D kA adK adV lyc lyr b L xs) (hc1 : cells + 2 ≤ 600000) (hc2 : slots + 42 ≤ 7302250) (h5 : ∀ k : Int32, 1 ≤ k → k ≤ 5 → vp_in (x3 + k) L) (hstep : step_dark Rel) (hn : ∀ c, c < 59 → c ∈ n) (hR : Rel n S T) (hL : L2 D kA lyc lyr n s.heap S T H locs) (hl : lv_has ls 4 [(3, .int x3), (0, .ref b), (1, .ref (lyc 0)), (2, .ref (lyr 0))])
    (next : ∀ (n1 : List Nat) (S1 T1 : St) (H1 : Heap) (locs1 : List Loc) (ls1 : Array Slot), (∀ c, c < 59 → c ∈ n1) → Rel n1 S1 T1 → L2 D kA lyc lyr n1 s.heap S1 T1 H1 locs1 → lv_has ls1 4 [(3, .int x3), (0, .ref b), (1, .ref (lyc 0)), (2, .ref (lyr 0))] → W p l e room_1 s m #[Value.ref b] below meth c H1 locs1 (cells + 2) (slots + 42) Qw (F0 m 1595 ls1 [])) : W p l e room_1 s m #[Value.ref b] below meth c H locs cells slots Qw (F0 m 720 ls []) := by
  obtain ⟨hx, hb, hml, hown, hts, hXs, hbl, hK, hN, hXs2, hly⟩ := hC
  have hbA : ¬ (fun q : Nat => s.heap.size ≤ q) b := Nat.not_le.mpr hbl
  refine lv_aload_n hx hb dL_law_720 rfl (lv_at hl 2 rfl) ?_
  refine lv_aload_n hx hb dL_law_721 rfl (lv_at hl 1 rfl) ?_
  refine lv_iload_n hx hb dL_law_722 rfl (lv_at hl 0 rfl) ?_
  refine lv_iconst (v := 1) hx hb dL_law_723 (by decide +kernel) ?_
  refine lv_iadd hx hb dL_law_724 ?_
  refine va_sld hx hb hXs hbl hbA hL.2.2.2.2.2 (h5 1 (by decide) (by decide)) dL_law_725 ?_
  refine L2.aftC (va_runV (As := [.int (xs (x3 + (1 : Int32)).toNatClampNeg)]) (rest := []) ⟨hx, hb, hml, hown, hts⟩ (c_X11_dark l D kA lyc n hn (Ac lyc n) (xs (x3 + (1 : Int32)).toNatClampNeg) S _) (cwV 1 hts lg_X11_dark rfl rfl rfl (by decide +kernel) ⟨(Nat.le_of_ble_eq_true rfl), (Nat.le_of_ble_eq_true rfl)⟩) ⟨k_blind, hL.recvC hK hn, hL.preC hK hN (hstep n S T (xs (x3 + (1 : Int32)).toNatClampNeg) hn hR)⟩ rfl rfl hl.1 rfl (lv_room (Nat.le_of_ble_eq_true rfl)) dL_law_726 ⟨by have := hc1; show _ ≤ 600000; omega, by have := hc2; show _ ≤ 7302250; omega⟩) hL (fun r S H locs hw hL => ?_)
  refine lv_aload_n hx hb dL_law_729 rfl (lv_at hl 3 rfl) ?_
  refine lv_aload_n hx hb dL_law_730 rfl (lv_at hl 1 rfl) ?_
  refine lv_iload_n hx hb dL_law_731 rfl (lv_at hl 0 rfl) ?_
  refine lv_iconst (v := 1) hx hb dL_law_732 (by decide +kernel) ?_
  refine lv_iadd hx hb dL_law_733 ?_
  refine va_sld hx hb hXs hbl hbA hL.2.2.2.2.2 (h5 1 (by decide) (by decide)) dL_law_734 ?_
  refine L2.aftR (va_runV (As := [.int (xs (x3 + (1 : Int32)).toNatClampNeg)]) (rest := [.int r]) ⟨hx, hb, hml, hown, hts⟩ (c_X12_dark l D kA lyr rcs rcs_in (Ac lyr rcs) (xs (x3 + (1 : Int32)).toNatClampNeg) T _) (cwV 1 hts lg_X12_dark rfl rfl rfl (by decide +kernel) ⟨(Nat.le_of_ble_eq_true rfl), (Nat.le_of_ble_eq_true rfl)⟩) ⟨k_blind, hL.recvR hK, hL.preR hK hN hw⟩ rfl rfl hl.1 rfl (lv_room (Nat.le_of_ble_eq_true rfl)) dL_law_735 ⟨by have := hc1; show _ ≤ 600000; omega, by have := hc2; show _ ≤ 7302250; omega⟩) hL (fun r2 T H locs hw hL => ?_)
  refine lv_icmp_eq (tgt := 1595) hx hb dL_law_738 (by decide) (fun _ => ?_) (fun hc => absurd hw.1 hc)
  refine W.widen (k := cells + 2) (n := slots + 42) (by omega) (by omega) ?_
  exact next n S T H locs ls hn hw.2 hL hl
/-- a step of seen keeps the relation, and the answers are the same -/
def step_seen (Rel : List Nat → St → St → Prop) : Prop := ∀ (n : List Nat) (S T : St) (a1 : Int32) (a2 : Int32) (a3 : Int32), (∀ c, c < 59 → c ∈ n) → Rel n S T → wp_X11_seen a1 a2 a3 S (fun r S1 => wp_X12_seen a1 a2 a3 T (fun r1 T1 => r = r1 ∧ Rel n S1 T1))
set_option maxHeartbeats 4000000 in
set_option maxRecDepth 100000 in
theorem lc_seen (hC : LW p s m meth c D kA adK adV lyc lyr b L xs) (hc1 : cells + 2 ≤ 600000) (hc2 : slots + 42 ≤ 7302250) (h5 : ∀ k : Int32, 1 ≤ k → k ≤ 5 → vp_in (x3 + k) L) (hstep : step_seen Rel) (hn : ∀ c, c < 59 → c ∈ n) (hR : Rel n S T) (hL : L2 D kA lyc lyr n s.heap S T H locs) (hl : lv_has ls 4 [(3, .int x3), (0, .ref b), (1, .ref (lyc 0)), (2, .ref (lyr 0))])
    (next : ∀ (n1 : List Nat) (S1 T1 : St) (H1 : Heap) (locs1 : List Loc) (ls1 : Array Slot), (∀ c, c < 59 → c ∈ n1) → Rel n1 S1 T1 → L2 D kA lyc lyr n1 s.heap S1 T1 H1 locs1 → lv_has ls1 4 [(3, .int x3), (0, .ref b), (1, .ref (lyc 0)), (2, .ref (lyr 0))] → W p l e room_1 s m #[Value.ref b] below meth c H1 locs1 (cells + 2) (slots + 42) Qw (F0 m 1595 ls1 [])) : W p l e room_1 s m #[Value.ref b] below meth c H locs cells slots Qw (F0 m 743 ls []) := by
  obtain ⟨hx, hb, hml, hown, hts, hXs, hbl, hK, hN, hXs2, hly⟩ := hC
  have hbA : ¬ (fun q : Nat => s.heap.size ≤ q) b := Nat.not_le.mpr hbl
  refine lv_aload_n hx hb dL_law_743 rfl (lv_at hl 2 rfl) ?_
  refine lv_aload_n hx hb dL_law_744 rfl (lv_at hl 1 rfl) ?_
  refine lv_iload_n hx hb dL_law_745 rfl (lv_at hl 0 rfl) ?_
  refine lv_iconst (v := 1) hx hb dL_law_746 (by decide +kernel) ?_
  refine lv_iadd hx hb dL_law_747 ?_
  refine va_sld hx hb hXs hbl hbA hL.2.2.2.2.2 (h5 1 (by decide) (by decide)) dL_law_748 ?_
  refine lv_aload_n hx hb dL_law_749 rfl (lv_at hl 1 rfl) ?_
  refine lv_iload_n hx hb dL_law_750 rfl (lv_at hl 0 rfl) ?_
  refine lv_iconst (v := 2) hx hb dL_law_751 (by decide +kernel) ?_
  refine lv_iadd hx hb dL_law_752 ?_
  refine va_sld hx hb hXs hbl hbA hL.2.2.2.2.2 (h5 2 (by decide) (by decide)) dL_law_753 ?_
  refine lv_aload_n hx hb dL_law_754 rfl (lv_at hl 1 rfl) ?_
  refine lv_iload_n hx hb dL_law_755 rfl (lv_at hl 0 rfl) ?_
  refine lv_iconst (v := 3) hx hb dL_law_756 (by decide +kernel) ?_
  refine lv_iadd hx hb dL_law_757 ?_
  refine va_sld hx hb hXs hbl hbA hL.2.2.2.2.2 (h5 3 (by decide) (by decide)) dL_law_758 ?_
  refine L2.aftC (va_runV (As := [.int (xs (x3 + (1 : Int32)).toNatClampNeg), .int (xs (x3 + (2 : Int32)).toNatClampNeg), .int (xs (x3 + (3 : Int32)).toNatClampNeg)]) (rest := []) ⟨hx, hb, hml, hown, hts⟩ (c_X11_seen l D kA lyc n hn (Ac lyc n) (xs (x3 + (1 : Int32)).toNatClampNeg) (xs (x3 + (2 : Int32)).toNatClampNeg) (xs (x3 + (3 : Int32)).toNatClampNeg) S _) (cwV 3 hts lg_X11_seen rfl rfl rfl (by decide +kernel) ⟨(Nat.le_of_ble_eq_true rfl), (Nat.le_of_ble_eq_true rfl)⟩) ⟨k_blind, hL.recvC hK hn, hL.preC hK hN (hstep n S T (xs (x3 + (1 : Int32)).toNatClampNeg) (xs (x3 + (2 : Int32)).toNatClampNeg) (xs (x3 + (3 : Int32)).toNatClampNeg) hn hR)⟩ rfl rfl hl.1 rfl (lv_room (Nat.le_of_ble_eq_true rfl)) dL_law_759 ⟨by have := hc1; show _ ≤ 600000; omega, by have := hc2; show _ ≤ 7302250; omega⟩) hL (fun r S H locs hw hL => ?_)
  refine lv_aload_n hx hb dL_law_762 rfl (lv_at hl 3 rfl) ?_
  refine lv_aload_n hx hb dL_law_763 rfl (lv_at hl 1 rfl) ?_
  refine lv_iload_n hx hb dL_law_764 rfl (lv_at hl 0 rfl) ?_
  refine lv_iconst (v := 1) hx hb dL_law_765 (by decide +kernel) ?_
  refine lv_iadd hx hb dL_law_766 ?_
  refine va_sld hx hb hXs hbl hbA hL.2.2.2.2.2 (h5 1 (by decide) (by decide)) dL_law_767 ?_
  refine lv_aload_n hx hb dL_law_768 rfl (lv_at hl 1 rfl) ?_
  refine lv_iload_n hx hb dL_law_769 rfl (lv_at hl 0 rfl) ?_
  refine lv_iconst (v := 2) hx hb dL_law_770 (by decide +kernel) ?_
  refine lv_iadd hx hb dL_law_771 ?_
  refine va_sld hx hb hXs hbl hbA hL.2.2.2.2.2 (h5 2 (by decide) (by decide)) dL_law_772 ?_
  refine lv_aload_n hx hb dL_law_773 rfl (lv_at hl 1 rfl) ?_
  refine lv_iload_n hx hb dL_law_774 rfl (lv_at hl 0 rfl) ?_
  refine lv_iconst (v := 3) hx hb dL_law_775 (by decide +kernel) ?_
  refine lv_iadd hx hb dL_law_776 ?_
  refine va_sld hx hb hXs hbl hbA hL.2.2.2.2.2 (h5 3 (by decide) (by decide)) dL_law_777 ?_
  refine L2.aftR (va_runV (As := [.int (xs (x3 + (1 : Int32)).toNatClampNeg), .int (xs (x3 + (2 : Int32)).toNatClampNeg), .int (xs (x3 + (3 : Int32)).toNatClampNeg)]) (rest := [.int r]) ⟨hx, hb, hml, hown, hts⟩ (c_X12_seen l D kA lyr rcs rcs_in (Ac lyr rcs) (xs (x3 + (1 : Int32)).toNatClampNeg) (xs (x3 + (2 : Int32)).toNatClampNeg) (xs (x3 + (3 : Int32)).toNatClampNeg) T _) (cwV 3 hts lg_X12_seen rfl rfl rfl (by decide +kernel) ⟨(Nat.le_of_ble_eq_true rfl), (Nat.le_of_ble_eq_true rfl)⟩) ⟨k_blind, hL.recvR hK, hL.preR hK hN hw⟩ rfl rfl hl.1 rfl (lv_room (Nat.le_of_ble_eq_true rfl)) dL_law_778 ⟨by have := hc1; show _ ≤ 600000; omega, by have := hc2; show _ ≤ 7302250; omega⟩) hL (fun r2 T H locs hw hL => ?_)
  refine lv_icmp_eq (tgt := 1595) hx hb dL_law_781 (by decide) (fun _ => ?_) (fun hc => absurd hw.1 hc)
  refine W.widen (k := cells + 2) (n := slots + 42) (by omega) (by omega) ?_
  exact next n S T H locs ls hn hw.2 hL hl
/-- a step of worth keeps the relation, and the answers are the same -/
def step_worth (Rel : List Nat → St → St → Prop) : Prop := ∀ (n : List Nat) (S T : St) (a1 : Int32) (a2 : Int32) (a3 : Int32), (∀ c, c < 59 → c ∈ n) → Rel n S T → wp_X11_worth a1 a2 a3 S (fun r S1 => wp_X12_worth a1 a2 a3 T (fun r1 T1 => r = r1 ∧ Rel n S1 T1))
set_option maxHeartbeats 4000000 in
set_option maxRecDepth 100000 in
theorem lc_worth (hC : LW p s m meth c D kA adK adV lyc lyr b L xs) (hc1 : cells + 2 ≤ 600000) (hc2 : slots + 42 ≤ 7302250) (h5 : ∀ k : Int32, 1 ≤ k → k ≤ 5 → vp_in (x3 + k) L) (hstep : step_worth Rel) (hn : ∀ c, c < 59 → c ∈ n) (hR : Rel n S T) (hL : L2 D kA lyc lyr n s.heap S T H locs) (hl : lv_has ls 4 [(3, .int x3), (0, .ref b), (1, .ref (lyc 0)), (2, .ref (lyr 0))])
    (next : ∀ (n1 : List Nat) (S1 T1 : St) (H1 : Heap) (locs1 : List Loc) (ls1 : Array Slot), (∀ c, c < 59 → c ∈ n1) → Rel n1 S1 T1 → L2 D kA lyc lyr n1 s.heap S1 T1 H1 locs1 → lv_has ls1 4 [(3, .int x3), (0, .ref b), (1, .ref (lyc 0)), (2, .ref (lyr 0))] → W p l e room_1 s m #[Value.ref b] below meth c H1 locs1 (cells + 2) (slots + 42) Qw (F0 m 1595 ls1 [])) : W p l e room_1 s m #[Value.ref b] below meth c H locs cells slots Qw (F0 m 786 ls []) := by
  obtain ⟨hx, hb, hml, hown, hts, hXs, hbl, hK, hN, hXs2, hly⟩ := hC
  have hbA : ¬ (fun q : Nat => s.heap.size ≤ q) b := Nat.not_le.mpr hbl
  refine lv_aload_n hx hb dL_law_786 rfl (lv_at hl 2 rfl) ?_
  refine lv_aload_n hx hb dL_law_787 rfl (lv_at hl 1 rfl) ?_
  refine lv_iload_n hx hb dL_law_788 rfl (lv_at hl 0 rfl) ?_
  refine lv_iconst (v := 1) hx hb dL_law_789 (by decide +kernel) ?_
  refine lv_iadd hx hb dL_law_790 ?_
  refine va_sld hx hb hXs hbl hbA hL.2.2.2.2.2 (h5 1 (by decide) (by decide)) dL_law_791 ?_
  refine lv_aload_n hx hb dL_law_792 rfl (lv_at hl 1 rfl) ?_
  refine lv_iload_n hx hb dL_law_793 rfl (lv_at hl 0 rfl) ?_
  refine lv_iconst (v := 2) hx hb dL_law_794 (by decide +kernel) ?_
  refine lv_iadd hx hb dL_law_795 ?_
  refine va_sld hx hb hXs hbl hbA hL.2.2.2.2.2 (h5 2 (by decide) (by decide)) dL_law_796 ?_
  refine lv_aload_n hx hb dL_law_797 rfl (lv_at hl 1 rfl) ?_
  refine lv_iload_n hx hb dL_law_798 rfl (lv_at hl 0 rfl) ?_
  refine lv_iconst (v := 3) hx hb dL_law_799 (by decide +kernel) ?_
  refine lv_iadd hx hb dL_law_800 ?_
  refine va_sld hx hb hXs hbl hbA hL.2.2.2.2.2 (h5 3 (by decide) (by decide)) dL_law_801 ?_
  refine L2.aftC (va_runV (As := [.int (xs (x3 + (1 : Int32)).toNatClampNeg), .int (xs (x3 + (2 : Int32)).toNatClampNeg), .int (xs (x3 + (3 : Int32)).toNatClampNeg)]) (rest := []) ⟨hx, hb, hml, hown, hts⟩ (c_X11_worth l D kA lyc n hn (Ac lyc n) (xs (x3 + (1 : Int32)).toNatClampNeg) (xs (x3 + (2 : Int32)).toNatClampNeg) (xs (x3 + (3 : Int32)).toNatClampNeg) S _) (cwV 3 hts lg_X11_worth rfl rfl rfl (by decide +kernel) ⟨(Nat.le_of_ble_eq_true rfl), (Nat.le_of_ble_eq_true rfl)⟩) ⟨k_blind, hL.recvC hK hn, hL.preC hK hN (hstep n S T (xs (x3 + (1 : Int32)).toNatClampNeg) (xs (x3 + (2 : Int32)).toNatClampNeg) (xs (x3 + (3 : Int32)).toNatClampNeg) hn hR)⟩ rfl rfl hl.1 rfl (lv_room (Nat.le_of_ble_eq_true rfl)) dL_law_802 ⟨by have := hc1; show _ ≤ 600000; omega, by have := hc2; show _ ≤ 7302250; omega⟩) hL (fun r S H locs hw hL => ?_)
  refine lv_aload_n hx hb dL_law_805 rfl (lv_at hl 3 rfl) ?_
  refine lv_aload_n hx hb dL_law_806 rfl (lv_at hl 1 rfl) ?_
  refine lv_iload_n hx hb dL_law_807 rfl (lv_at hl 0 rfl) ?_
  refine lv_iconst (v := 1) hx hb dL_law_808 (by decide +kernel) ?_
  refine lv_iadd hx hb dL_law_809 ?_
  refine va_sld hx hb hXs hbl hbA hL.2.2.2.2.2 (h5 1 (by decide) (by decide)) dL_law_810 ?_
  refine lv_aload_n hx hb dL_law_811 rfl (lv_at hl 1 rfl) ?_
  refine lv_iload_n hx hb dL_law_812 rfl (lv_at hl 0 rfl) ?_
  refine lv_iconst (v := 2) hx hb dL_law_813 (by decide +kernel) ?_
  refine lv_iadd hx hb dL_law_814 ?_
  refine va_sld hx hb hXs hbl hbA hL.2.2.2.2.2 (h5 2 (by decide) (by decide)) dL_law_815 ?_
  refine lv_aload_n hx hb dL_law_816 rfl (lv_at hl 1 rfl) ?_
  refine lv_iload_n hx hb dL_law_817 rfl (lv_at hl 0 rfl) ?_
  refine lv_iconst (v := 3) hx hb dL_law_818 (by decide +kernel) ?_
  refine lv_iadd hx hb dL_law_819 ?_
  refine va_sld hx hb hXs hbl hbA hL.2.2.2.2.2 (h5 3 (by decide) (by decide)) dL_law_820 ?_
  refine L2.aftR (va_runV (As := [.int (xs (x3 + (1 : Int32)).toNatClampNeg), .int (xs (x3 + (2 : Int32)).toNatClampNeg), .int (xs (x3 + (3 : Int32)).toNatClampNeg)]) (rest := [.int r]) ⟨hx, hb, hml, hown, hts⟩ (c_X12_worth l D kA lyr rcs rcs_in (Ac lyr rcs) (xs (x3 + (1 : Int32)).toNatClampNeg) (xs (x3 + (2 : Int32)).toNatClampNeg) (xs (x3 + (3 : Int32)).toNatClampNeg) T _) (cwV 3 hts lg_X12_worth rfl rfl rfl (by decide +kernel) ⟨(Nat.le_of_ble_eq_true rfl), (Nat.le_of_ble_eq_true rfl)⟩) ⟨k_blind, hL.recvR hK, hL.preR hK hN hw⟩ rfl rfl hl.1 rfl (lv_room (Nat.le_of_ble_eq_true rfl)) dL_law_821 ⟨by have := hc1; show _ ≤ 600000; omega, by have := hc2; show _ ≤ 7302250; omega⟩) hL (fun r2 T H locs hw hL => ?_)
  refine lv_icmp_eq (tgt := 1595) hx hb dL_law_824 (by decide) (fun _ => ?_) (fun hc => absurd hw.1 hc)
  refine W.widen (k := cells + 2) (n := slots + 42) (by omega) (by omega) ?_
  exact next n S T H locs ls hn hw.2 hL hl
/-- a step of buy keeps the relation, and the answers are the same -/
def step_buy (Rel : List Nat → St → St → Prop) : Prop := ∀ (n : List Nat) (S T : St) (a1 : Int32) (a2 : Int32), (∀ c, c < 59 → c ∈ n) → Rel n S T → wp_X11_buy a1 a2 S (fun r S1 => wp_X12_buy a1 a2 T (fun r1 T1 => r = r1 ∧ Rel n S1 T1))
set_option maxHeartbeats 4000000 in
set_option maxRecDepth 100000 in
theorem lc_buy (hC : LW p s m meth c D kA adK adV lyc lyr b L xs) (hc1 : cells + 2 ≤ 600000) (hc2 : slots + 42 ≤ 7302250) (h5 : ∀ k : Int32, 1 ≤ k → k ≤ 5 → vp_in (x3 + k) L) (hstep : step_buy Rel) (hn : ∀ c, c < 59 → c ∈ n) (hR : Rel n S T) (hL : L2 D kA lyc lyr n s.heap S T H locs) (hl : lv_has ls 4 [(3, .int x3), (0, .ref b), (1, .ref (lyc 0)), (2, .ref (lyr 0))])
    (next : ∀ (n1 : List Nat) (S1 T1 : St) (H1 : Heap) (locs1 : List Loc) (ls1 : Array Slot), (∀ c, c < 59 → c ∈ n1) → Rel n1 S1 T1 → L2 D kA lyc lyr n1 s.heap S1 T1 H1 locs1 → lv_has ls1 4 [(3, .int x3), (0, .ref b), (1, .ref (lyc 0)), (2, .ref (lyr 0))] → W p l e room_1 s m #[Value.ref b] below meth c H1 locs1 (cells + 2) (slots + 42) Qw (F0 m 1595 ls1 [])) : W p l e room_1 s m #[Value.ref b] below meth c H locs cells slots Qw (F0 m 829 ls []) := by
  obtain ⟨hx, hb, hml, hown, hts, hXs, hbl, hK, hN, hXs2, hly⟩ := hC
  have hbA : ¬ (fun q : Nat => s.heap.size ≤ q) b := Nat.not_le.mpr hbl
  refine lv_aload_n hx hb dL_law_829 rfl (lv_at hl 2 rfl) ?_
  refine lv_aload_n hx hb dL_law_830 rfl (lv_at hl 1 rfl) ?_
  refine lv_iload_n hx hb dL_law_831 rfl (lv_at hl 0 rfl) ?_
  refine lv_iconst (v := 1) hx hb dL_law_832 (by decide +kernel) ?_
  refine lv_iadd hx hb dL_law_833 ?_
  refine va_sld hx hb hXs hbl hbA hL.2.2.2.2.2 (h5 1 (by decide) (by decide)) dL_law_834 ?_
  refine lv_aload_n hx hb dL_law_835 rfl (lv_at hl 1 rfl) ?_
  refine lv_iload_n hx hb dL_law_836 rfl (lv_at hl 0 rfl) ?_
  refine lv_iconst (v := 2) hx hb dL_law_837 (by decide +kernel) ?_
  refine lv_iadd hx hb dL_law_838 ?_
  refine va_sld hx hb hXs hbl hbA hL.2.2.2.2.2 (h5 2 (by decide) (by decide)) dL_law_839 ?_
  refine L2.aftC (va_runV (As := [.int (xs (x3 + (1 : Int32)).toNatClampNeg), .int (xs (x3 + (2 : Int32)).toNatClampNeg)]) (rest := []) ⟨hx, hb, hml, hown, hts⟩ (c_X11_buy l D kA lyc n hn (Ac lyc n) (xs (x3 + (1 : Int32)).toNatClampNeg) (xs (x3 + (2 : Int32)).toNatClampNeg) S _) (cwV 2 hts lg_X11_buy rfl rfl rfl (by decide +kernel) ⟨(Nat.le_of_ble_eq_true rfl), (Nat.le_of_ble_eq_true rfl)⟩) ⟨k_blind, hL.recvC hK hn, hL.preC hK hN (hstep n S T (xs (x3 + (1 : Int32)).toNatClampNeg) (xs (x3 + (2 : Int32)).toNatClampNeg) hn hR)⟩ rfl rfl hl.1 rfl (lv_room (Nat.le_of_ble_eq_true rfl)) dL_law_840 ⟨by have := hc1; show _ ≤ 600000; omega, by have := hc2; show _ ≤ 7302250; omega⟩) hL (fun r S H locs hw hL => ?_)
  refine lv_aload_n hx hb dL_law_843 rfl (lv_at hl 3 rfl) ?_
  refine lv_aload_n hx hb dL_law_844 rfl (lv_at hl 1 rfl) ?_
  refine lv_iload_n hx hb dL_law_845 rfl (lv_at hl 0 rfl) ?_
  refine lv_iconst (v := 1) hx hb dL_law_846 (by decide +kernel) ?_
  refine lv_iadd hx hb dL_law_847 ?_
  refine va_sld hx hb hXs hbl hbA hL.2.2.2.2.2 (h5 1 (by decide) (by decide)) dL_law_848 ?_
  refine lv_aload_n hx hb dL_law_849 rfl (lv_at hl 1 rfl) ?_
  refine lv_iload_n hx hb dL_law_850 rfl (lv_at hl 0 rfl) ?_
  refine lv_iconst (v := 2) hx hb dL_law_851 (by decide +kernel) ?_
  refine lv_iadd hx hb dL_law_852 ?_
  refine va_sld hx hb hXs hbl hbA hL.2.2.2.2.2 (h5 2 (by decide) (by decide)) dL_law_853 ?_
  refine L2.aftR (va_runV (As := [.int (xs (x3 + (1 : Int32)).toNatClampNeg), .int (xs (x3 + (2 : Int32)).toNatClampNeg)]) (rest := [.int r]) ⟨hx, hb, hml, hown, hts⟩ (c_X12_buy l D kA lyr rcs rcs_in (Ac lyr rcs) (xs (x3 + (1 : Int32)).toNatClampNeg) (xs (x3 + (2 : Int32)).toNatClampNeg) T _) (cwV 2 hts lg_X12_buy rfl rfl rfl (by decide +kernel) ⟨(Nat.le_of_ble_eq_true rfl), (Nat.le_of_ble_eq_true rfl)⟩) ⟨k_blind, hL.recvR hK, hL.preR hK hN hw⟩ rfl rfl hl.1 rfl (lv_room (Nat.le_of_ble_eq_true rfl)) dL_law_854 ⟨by have := hc1; show _ ≤ 600000; omega, by have := hc2; show _ ≤ 7302250; omega⟩) hL (fun r2 T H locs hw hL => ?_)
  refine lv_icmp_eq (tgt := 1595) hx hb dL_law_857 (by decide) (fun _ => ?_) (fun hc => absurd hw.1 hc)
  refine W.widen (k := cells + 2) (n := slots + 42) (by omega) (by omega) ?_
  exact next n S T H locs ls hn hw.2 hL hl
/-- a step of let keeps the relation, and the answers are the same -/
def step_let (Rel : List Nat → St → St → Prop) : Prop := ∀ (n : List Nat) (S T : St) (a1 : Int32) (a2 : Int32) (a3 : Int32), (∀ c, c < 59 → c ∈ n) → Rel n S T → wp_X11_let a1 a2 a3 S (fun r S1 => wp_X12_let a1 a2 a3 T (fun r1 T1 => r = r1 ∧ Rel n S1 T1))
set_option maxHeartbeats 4000000 in
set_option maxRecDepth 100000 in
theorem lc_let (hC : LW p s m meth c D kA adK adV lyc lyr b L xs) (hc1 : cells + 2 ≤ 600000) (hc2 : slots + 42 ≤ 7302250) (h5 : ∀ k : Int32, 1 ≤ k → k ≤ 5 → vp_in (x3 + k) L) (hstep : step_let Rel) (hn : ∀ c, c < 59 → c ∈ n) (hR : Rel n S T) (hL : L2 D kA lyc lyr n s.heap S T H locs) (hl : lv_has ls 4 [(3, .int x3), (0, .ref b), (1, .ref (lyc 0)), (2, .ref (lyr 0))])
    (next : ∀ (n1 : List Nat) (S1 T1 : St) (H1 : Heap) (locs1 : List Loc) (ls1 : Array Slot), (∀ c, c < 59 → c ∈ n1) → Rel n1 S1 T1 → L2 D kA lyc lyr n1 s.heap S1 T1 H1 locs1 → lv_has ls1 4 [(3, .int x3), (0, .ref b), (1, .ref (lyc 0)), (2, .ref (lyr 0))] → W p l e room_1 s m #[Value.ref b] below meth c H1 locs1 (cells + 2) (slots + 42) Qw (F0 m 1595 ls1 [])) : W p l e room_1 s m #[Value.ref b] below meth c H locs cells slots Qw (F0 m 862 ls []) := by
  obtain ⟨hx, hb, hml, hown, hts, hXs, hbl, hK, hN, hXs2, hly⟩ := hC
  have hbA : ¬ (fun q : Nat => s.heap.size ≤ q) b := Nat.not_le.mpr hbl
  refine lv_aload_n hx hb dL_law_862 rfl (lv_at hl 2 rfl) ?_
  refine lv_aload_n hx hb dL_law_863 rfl (lv_at hl 1 rfl) ?_
  refine lv_iload_n hx hb dL_law_864 rfl (lv_at hl 0 rfl) ?_
  refine lv_iconst (v := 1) hx hb dL_law_865 (by decide +kernel) ?_
  refine lv_iadd hx hb dL_law_866 ?_
  refine va_sld hx hb hXs hbl hbA hL.2.2.2.2.2 (h5 1 (by decide) (by decide)) dL_law_867 ?_
  refine lv_aload_n hx hb dL_law_868 rfl (lv_at hl 1 rfl) ?_
  refine lv_iload_n hx hb dL_law_869 rfl (lv_at hl 0 rfl) ?_
  refine lv_iconst (v := 2) hx hb dL_law_870 (by decide +kernel) ?_
  refine lv_iadd hx hb dL_law_871 ?_
  refine va_sld hx hb hXs hbl hbA hL.2.2.2.2.2 (h5 2 (by decide) (by decide)) dL_law_872 ?_
  refine lv_aload_n hx hb dL_law_873 rfl (lv_at hl 1 rfl) ?_
  refine lv_iload_n hx hb dL_law_874 rfl (lv_at hl 0 rfl) ?_
  refine lv_iconst (v := 3) hx hb dL_law_875 (by decide +kernel) ?_
  refine lv_iadd hx hb dL_law_876 ?_
  refine va_sld hx hb hXs hbl hbA hL.2.2.2.2.2 (h5 3 (by decide) (by decide)) dL_law_877 ?_
  refine L2.aftC (va_runV (As := [.int (xs (x3 + (1 : Int32)).toNatClampNeg), .int (xs (x3 + (2 : Int32)).toNatClampNeg), .int (xs (x3 + (3 : Int32)).toNatClampNeg)]) (rest := []) ⟨hx, hb, hml, hown, hts⟩ (c_X11_let l D kA lyc n hn (Ac lyc n) (xs (x3 + (1 : Int32)).toNatClampNeg) (xs (x3 + (2 : Int32)).toNatClampNeg) (xs (x3 + (3 : Int32)).toNatClampNeg) S _) (cwV 3 hts lg_X11_let rfl rfl rfl (by decide +kernel) ⟨(Nat.le_of_ble_eq_true rfl), (Nat.le_of_ble_eq_true rfl)⟩) ⟨k_blind, hL.recvC hK hn, hL.preC hK hN (hstep n S T (xs (x3 + (1 : Int32)).toNatClampNeg) (xs (x3 + (2 : Int32)).toNatClampNeg) (xs (x3 + (3 : Int32)).toNatClampNeg) hn hR)⟩ rfl rfl hl.1 rfl (lv_room (Nat.le_of_ble_eq_true rfl)) dL_law_878 ⟨by have := hc1; show _ ≤ 600000; omega, by have := hc2; show _ ≤ 7302250; omega⟩) hL (fun r S H locs hw hL => ?_)
  refine lv_aload_n hx hb dL_law_881 rfl (lv_at hl 3 rfl) ?_
  refine lv_aload_n hx hb dL_law_882 rfl (lv_at hl 1 rfl) ?_
  refine lv_iload_n hx hb dL_law_883 rfl (lv_at hl 0 rfl) ?_
  refine lv_iconst (v := 1) hx hb dL_law_884 (by decide +kernel) ?_
  refine lv_iadd hx hb dL_law_885 ?_
  refine va_sld hx hb hXs hbl hbA hL.2.2.2.2.2 (h5 1 (by decide) (by decide)) dL_law_886 ?_
  refine lv_aload_n hx hb dL_law_887 rfl (lv_at hl 1 rfl) ?_
  refine lv_iload_n hx hb dL_law_888 rfl (lv_at hl 0 rfl) ?_
  refine lv_iconst (v := 2) hx hb dL_law_889 (by decide +kernel) ?_
  refine lv_iadd hx hb dL_law_890 ?_
  refine va_sld hx hb hXs hbl hbA hL.2.2.2.2.2 (h5 2 (by decide) (by decide)) dL_law_891 ?_
  refine lv_aload_n hx hb dL_law_892 rfl (lv_at hl 1 rfl) ?_
  refine lv_iload_n hx hb dL_law_893 rfl (lv_at hl 0 rfl) ?_
  refine lv_iconst (v := 3) hx hb dL_law_894 (by decide +kernel) ?_
  refine lv_iadd hx hb dL_law_895 ?_
  refine va_sld hx hb hXs hbl hbA hL.2.2.2.2.2 (h5 3 (by decide) (by decide)) dL_law_896 ?_
  refine L2.aftR (va_runV (As := [.int (xs (x3 + (1 : Int32)).toNatClampNeg), .int (xs (x3 + (2 : Int32)).toNatClampNeg), .int (xs (x3 + (3 : Int32)).toNatClampNeg)]) (rest := [.int r]) ⟨hx, hb, hml, hown, hts⟩ (c_X12_let l D kA lyr rcs rcs_in (Ac lyr rcs) (xs (x3 + (1 : Int32)).toNatClampNeg) (xs (x3 + (2 : Int32)).toNatClampNeg) (xs (x3 + (3 : Int32)).toNatClampNeg) T _) (cwV 3 hts lg_X12_let rfl rfl rfl (by decide +kernel) ⟨(Nat.le_of_ble_eq_true rfl), (Nat.le_of_ble_eq_true rfl)⟩) ⟨k_blind, hL.recvR hK, hL.preR hK hN hw⟩ rfl rfl hl.1 rfl (lv_room (Nat.le_of_ble_eq_true rfl)) dL_law_897 ⟨by have := hc1; show _ ≤ 600000; omega, by have := hc2; show _ ≤ 7302250; omega⟩) hL (fun r2 T H locs hw hL => ?_)
  refine lv_icmp_eq (tgt := 1595) hx hb dL_law_900 (by decide) (fun _ => ?_) (fun hc => absurd hw.1 hc)
  refine W.widen (k := cells + 2) (n := slots + 42) (by omega) (by omega) ?_
  exact next n S T H locs ls hn hw.2 hL hl
/-- a step of best keeps the relation, and the answers are the same -/
def step_best (Rel : List Nat → St → St → Prop) : Prop := ∀ (n : List Nat) (S T : St) (a1 : Int32) (a2 : Int32) (a3 : Int32), (∀ c, c < 59 → c ∈ n) → Rel n S T → wp_X11_best a1 a2 a3 S (fun r S1 => wp_X12_best a1 a2 a3 T (fun r1 T1 => r = r1 ∧ Rel n S1 T1))
set_option maxHeartbeats 4000000 in
set_option maxRecDepth 100000 in
theorem lc_best (hC : LW p s m meth c D kA adK adV lyc lyr b L xs) (hc1 : cells + 2 ≤ 600000) (hc2 : slots + 42 ≤ 7302250) (h5 : ∀ k : Int32, 1 ≤ k → k ≤ 5 → vp_in (x3 + k) L) (hstep : step_best Rel) (hn : ∀ c, c < 59 → c ∈ n) (hR : Rel n S T) (hL : L2 D kA lyc lyr n s.heap S T H locs) (hl : lv_has ls 4 [(3, .int x3), (0, .ref b), (1, .ref (lyc 0)), (2, .ref (lyr 0))])
    (next : ∀ (n1 : List Nat) (S1 T1 : St) (H1 : Heap) (locs1 : List Loc) (ls1 : Array Slot), (∀ c, c < 59 → c ∈ n1) → Rel n1 S1 T1 → L2 D kA lyc lyr n1 s.heap S1 T1 H1 locs1 → lv_has ls1 4 [(3, .int x3), (0, .ref b), (1, .ref (lyc 0)), (2, .ref (lyr 0))] → W p l e room_1 s m #[Value.ref b] below meth c H1 locs1 (cells + 2) (slots + 42) Qw (F0 m 1595 ls1 [])) : W p l e room_1 s m #[Value.ref b] below meth c H locs cells slots Qw (F0 m 905 ls []) := by
  obtain ⟨hx, hb, hml, hown, hts, hXs, hbl, hK, hN, hXs2, hly⟩ := hC
  have hbA : ¬ (fun q : Nat => s.heap.size ≤ q) b := Nat.not_le.mpr hbl
  refine lv_aload_n hx hb dL_law_905 rfl (lv_at hl 2 rfl) ?_
  refine lv_aload_n hx hb dL_law_906 rfl (lv_at hl 1 rfl) ?_
  refine lv_iload_n hx hb dL_law_907 rfl (lv_at hl 0 rfl) ?_
  refine lv_iconst (v := 1) hx hb dL_law_908 (by decide +kernel) ?_
  refine lv_iadd hx hb dL_law_909 ?_
  refine va_sld hx hb hXs hbl hbA hL.2.2.2.2.2 (h5 1 (by decide) (by decide)) dL_law_910 ?_
  refine lv_aload_n hx hb dL_law_911 rfl (lv_at hl 1 rfl) ?_
  refine lv_iload_n hx hb dL_law_912 rfl (lv_at hl 0 rfl) ?_
  refine lv_iconst (v := 2) hx hb dL_law_913 (by decide +kernel) ?_
  refine lv_iadd hx hb dL_law_914 ?_
  refine va_sld hx hb hXs hbl hbA hL.2.2.2.2.2 (h5 2 (by decide) (by decide)) dL_law_915 ?_
  refine lv_aload_n hx hb dL_law_916 rfl (lv_at hl 1 rfl) ?_
  refine lv_iload_n hx hb dL_law_917 rfl (lv_at hl 0 rfl) ?_
  refine lv_iconst (v := 3) hx hb dL_law_918 (by decide +kernel) ?_
  refine lv_iadd hx hb dL_law_919 ?_
  refine va_sld hx hb hXs hbl hbA hL.2.2.2.2.2 (h5 3 (by decide) (by decide)) dL_law_920 ?_
  refine L2.aftC (va_runV (As := [.int (xs (x3 + (1 : Int32)).toNatClampNeg), .int (xs (x3 + (2 : Int32)).toNatClampNeg), .int (xs (x3 + (3 : Int32)).toNatClampNeg)]) (rest := []) ⟨hx, hb, hml, hown, hts⟩ (c_X11_best l D kA lyc n hn (Ac lyc n) (xs (x3 + (1 : Int32)).toNatClampNeg) (xs (x3 + (2 : Int32)).toNatClampNeg) (xs (x3 + (3 : Int32)).toNatClampNeg) S _) (cwV 3 hts lg_X11_best rfl rfl rfl (by decide +kernel) ⟨(Nat.le_of_ble_eq_true rfl), (Nat.le_of_ble_eq_true rfl)⟩) ⟨k_blind, hL.recvC hK hn, hL.preC hK hN (hstep n S T (xs (x3 + (1 : Int32)).toNatClampNeg) (xs (x3 + (2 : Int32)).toNatClampNeg) (xs (x3 + (3 : Int32)).toNatClampNeg) hn hR)⟩ rfl rfl hl.1 rfl (lv_room (Nat.le_of_ble_eq_true rfl)) dL_law_921 ⟨by have := hc1; show _ ≤ 600000; omega, by have := hc2; show _ ≤ 7302250; omega⟩) hL (fun r S H locs hw hL => ?_)
  refine lv_aload_n hx hb dL_law_924 rfl (lv_at hl 3 rfl) ?_
  refine lv_aload_n hx hb dL_law_925 rfl (lv_at hl 1 rfl) ?_
  refine lv_iload_n hx hb dL_law_926 rfl (lv_at hl 0 rfl) ?_
  refine lv_iconst (v := 1) hx hb dL_law_927 (by decide +kernel) ?_
  refine lv_iadd hx hb dL_law_928 ?_
  refine va_sld hx hb hXs hbl hbA hL.2.2.2.2.2 (h5 1 (by decide) (by decide)) dL_law_929 ?_
  refine lv_aload_n hx hb dL_law_930 rfl (lv_at hl 1 rfl) ?_
  refine lv_iload_n hx hb dL_law_931 rfl (lv_at hl 0 rfl) ?_
  refine lv_iconst (v := 2) hx hb dL_law_932 (by decide +kernel) ?_
  refine lv_iadd hx hb dL_law_933 ?_
  refine va_sld hx hb hXs hbl hbA hL.2.2.2.2.2 (h5 2 (by decide) (by decide)) dL_law_934 ?_
  refine lv_aload_n hx hb dL_law_935 rfl (lv_at hl 1 rfl) ?_
  refine lv_iload_n hx hb dL_law_936 rfl (lv_at hl 0 rfl) ?_
  refine lv_iconst (v := 3) hx hb dL_law_937 (by decide +kernel) ?_
  refine lv_iadd hx hb dL_law_938 ?_
  refine va_sld hx hb hXs hbl hbA hL.2.2.2.2.2 (h5 3 (by decide) (by decide)) dL_law_939 ?_
  refine L2.aftR (va_runV (As := [.int (xs (x3 + (1 : Int32)).toNatClampNeg), .int (xs (x3 + (2 : Int32)).toNatClampNeg), .int (xs (x3 + (3 : Int32)).toNatClampNeg)]) (rest := [.int r]) ⟨hx, hb, hml, hown, hts⟩ (c_X12_best l D kA lyr rcs rcs_in (Ac lyr rcs) (xs (x3 + (1 : Int32)).toNatClampNeg) (xs (x3 + (2 : Int32)).toNatClampNeg) (xs (x3 + (3 : Int32)).toNatClampNeg) T _) (cwV 3 hts lg_X12_best rfl rfl rfl (by decide +kernel) ⟨(Nat.le_of_ble_eq_true rfl), (Nat.le_of_ble_eq_true rfl)⟩) ⟨k_blind, hL.recvR hK, hL.preR hK hN hw⟩ rfl rfl hl.1 rfl (lv_room (Nat.le_of_ble_eq_true rfl)) dL_law_940 ⟨by have := hc1; show _ ≤ 600000; omega, by have := hc2; show _ ≤ 7302250; omega⟩) hL (fun r2 T H locs hw hL => ?_)
  refine lv_icmp_eq (tgt := 1595) hx hb dL_law_943 (by decide) (fun _ => ?_) (fun hc => absurd hw.1 hc)
  refine W.widen (k := cells + 2) (n := slots + 42) (by omega) (by omega) ?_
  exact next n S T H locs ls hn hw.2 hL hl
/-- a step of turned keeps the relation, and the answers are the same -/
def step_turned (Rel : List Nat → St → St → Prop) : Prop := ∀ (n : List Nat) (S T : St) (a1 : Int32) (a2 : Int32) (a3 : Int32), (∀ c, c < 59 → c ∈ n) → Rel n S T → wp_X11_turned a1 a2 a3 S (fun r S1 => wp_X12_turned a1 a2 a3 T (fun r1 T1 => r = r1 ∧ Rel n S1 T1))
set_option maxHeartbeats 4000000 in
set_option maxRecDepth 100000 in
theorem lc_turned (hC : LW p s m meth c D kA adK adV lyc lyr b L xs) (hc1 : cells + 2 ≤ 600000) (hc2 : slots + 42 ≤ 7302250) (h5 : ∀ k : Int32, 1 ≤ k → k ≤ 5 → vp_in (x3 + k) L) (hstep : step_turned Rel) (hn : ∀ c, c < 59 → c ∈ n) (hR : Rel n S T) (hL : L2 D kA lyc lyr n s.heap S T H locs) (hl : lv_has ls 4 [(3, .int x3), (0, .ref b), (1, .ref (lyc 0)), (2, .ref (lyr 0))])
    (next : ∀ (n1 : List Nat) (S1 T1 : St) (H1 : Heap) (locs1 : List Loc) (ls1 : Array Slot), (∀ c, c < 59 → c ∈ n1) → Rel n1 S1 T1 → L2 D kA lyc lyr n1 s.heap S1 T1 H1 locs1 → lv_has ls1 4 [(3, .int x3), (0, .ref b), (1, .ref (lyc 0)), (2, .ref (lyr 0))] → W p l e room_1 s m #[Value.ref b] below meth c H1 locs1 (cells + 2) (slots + 42) Qw (F0 m 1595 ls1 [])) : W p l e room_1 s m #[Value.ref b] below meth c H locs cells slots Qw (F0 m 948 ls []) := by
  obtain ⟨hx, hb, hml, hown, hts, hXs, hbl, hK, hN, hXs2, hly⟩ := hC
  have hbA : ¬ (fun q : Nat => s.heap.size ≤ q) b := Nat.not_le.mpr hbl
  refine lv_aload_n hx hb dL_law_948 rfl (lv_at hl 2 rfl) ?_
  refine lv_aload_n hx hb dL_law_949 rfl (lv_at hl 1 rfl) ?_
  refine lv_iload_n hx hb dL_law_950 rfl (lv_at hl 0 rfl) ?_
  refine lv_iconst (v := 1) hx hb dL_law_951 (by decide +kernel) ?_
  refine lv_iadd hx hb dL_law_952 ?_
  refine va_sld hx hb hXs hbl hbA hL.2.2.2.2.2 (h5 1 (by decide) (by decide)) dL_law_953 ?_
  refine lv_aload_n hx hb dL_law_954 rfl (lv_at hl 1 rfl) ?_
  refine lv_iload_n hx hb dL_law_955 rfl (lv_at hl 0 rfl) ?_
  refine lv_iconst (v := 2) hx hb dL_law_956 (by decide +kernel) ?_
  refine lv_iadd hx hb dL_law_957 ?_
  refine va_sld hx hb hXs hbl hbA hL.2.2.2.2.2 (h5 2 (by decide) (by decide)) dL_law_958 ?_
  refine lv_aload_n hx hb dL_law_959 rfl (lv_at hl 1 rfl) ?_
  refine lv_iload_n hx hb dL_law_960 rfl (lv_at hl 0 rfl) ?_
  refine lv_iconst (v := 3) hx hb dL_law_961 (by decide +kernel) ?_
  refine lv_iadd hx hb dL_law_962 ?_
  refine va_sld hx hb hXs hbl hbA hL.2.2.2.2.2 (h5 3 (by decide) (by decide)) dL_law_963 ?_
  refine L2.aftC (va_runV (As := [.int (xs (x3 + (1 : Int32)).toNatClampNeg), .int (xs (x3 + (2 : Int32)).toNatClampNeg), .int (xs (x3 + (3 : Int32)).toNatClampNeg)]) (rest := []) ⟨hx, hb, hml, hown, hts⟩ (c_X11_turned l D kA lyc n hn (Ac lyc n) (xs (x3 + (1 : Int32)).toNatClampNeg) (xs (x3 + (2 : Int32)).toNatClampNeg) (xs (x3 + (3 : Int32)).toNatClampNeg) S _) (cwV 3 hts lg_X11_turned rfl rfl rfl (by decide +kernel) ⟨(Nat.le_of_ble_eq_true rfl), (Nat.le_of_ble_eq_true rfl)⟩) ⟨k_blind, hL.recvC hK hn, hL.preC hK hN (hstep n S T (xs (x3 + (1 : Int32)).toNatClampNeg) (xs (x3 + (2 : Int32)).toNatClampNeg) (xs (x3 + (3 : Int32)).toNatClampNeg) hn hR)⟩ rfl rfl hl.1 rfl (lv_room (Nat.le_of_ble_eq_true rfl)) dL_law_964 ⟨by have := hc1; show _ ≤ 600000; omega, by have := hc2; show _ ≤ 7302250; omega⟩) hL (fun r S H locs hw hL => ?_)
  refine lv_aload_n hx hb dL_law_967 rfl (lv_at hl 3 rfl) ?_
  refine lv_aload_n hx hb dL_law_968 rfl (lv_at hl 1 rfl) ?_
  refine lv_iload_n hx hb dL_law_969 rfl (lv_at hl 0 rfl) ?_
  refine lv_iconst (v := 1) hx hb dL_law_970 (by decide +kernel) ?_
  refine lv_iadd hx hb dL_law_971 ?_
  refine va_sld hx hb hXs hbl hbA hL.2.2.2.2.2 (h5 1 (by decide) (by decide)) dL_law_972 ?_
  refine lv_aload_n hx hb dL_law_973 rfl (lv_at hl 1 rfl) ?_
  refine lv_iload_n hx hb dL_law_974 rfl (lv_at hl 0 rfl) ?_
  refine lv_iconst (v := 2) hx hb dL_law_975 (by decide +kernel) ?_
  refine lv_iadd hx hb dL_law_976 ?_
  refine va_sld hx hb hXs hbl hbA hL.2.2.2.2.2 (h5 2 (by decide) (by decide)) dL_law_977 ?_
  refine lv_aload_n hx hb dL_law_978 rfl (lv_at hl 1 rfl) ?_
  refine lv_iload_n hx hb dL_law_979 rfl (lv_at hl 0 rfl) ?_
  refine lv_iconst (v := 3) hx hb dL_law_980 (by decide +kernel) ?_
  refine lv_iadd hx hb dL_law_981 ?_
  refine va_sld hx hb hXs hbl hbA hL.2.2.2.2.2 (h5 3 (by decide) (by decide)) dL_law_982 ?_
  refine L2.aftR (va_runV (As := [.int (xs (x3 + (1 : Int32)).toNatClampNeg), .int (xs (x3 + (2 : Int32)).toNatClampNeg), .int (xs (x3 + (3 : Int32)).toNatClampNeg)]) (rest := [.int r]) ⟨hx, hb, hml, hown, hts⟩ (c_X12_turned l D kA lyr rcs rcs_in (Ac lyr rcs) (xs (x3 + (1 : Int32)).toNatClampNeg) (xs (x3 + (2 : Int32)).toNatClampNeg) (xs (x3 + (3 : Int32)).toNatClampNeg) T _) (cwV 3 hts lg_X12_turned rfl rfl rfl (by decide +kernel) ⟨(Nat.le_of_ble_eq_true rfl), (Nat.le_of_ble_eq_true rfl)⟩) ⟨k_blind, hL.recvR hK, hL.preR hK hN hw⟩ rfl rfl hl.1 rfl (lv_room (Nat.le_of_ble_eq_true rfl)) dL_law_983 ⟨by have := hc1; show _ ≤ 600000; omega, by have := hc2; show _ ≤ 7302250; omega⟩) hL (fun r2 T H locs hw hL => ?_)
  refine lv_icmp_eq (tgt := 1595) hx hb dL_law_986 (by decide) (fun _ => ?_) (fun hc => absurd hw.1 hc)
  refine W.widen (k := cells + 2) (n := slots + 42) (by omega) (by omega) ?_
  exact next n S T H locs ls hn hw.2 hL hl
/-- a step of will keeps the relation, and the answers are the same -/
def step_will (Rel : List Nat → St → St → Prop) : Prop := ∀ (n : List Nat) (S T : St) (a1 : Int32) (a2 : Int32), (∀ c, c < 59 → c ∈ n) → Rel n S T → wp_X11_will a1 a2 S (fun r S1 => wp_X12_will a1 a2 T (fun r1 T1 => r = r1 ∧ Rel n S1 T1))
set_option maxHeartbeats 4000000 in
set_option maxRecDepth 100000 in
theorem lc_will (hC : LW p s m meth c D kA adK adV lyc lyr b L xs) (hc1 : cells + 2 ≤ 600000) (hc2 : slots + 42 ≤ 7302250) (h5 : ∀ k : Int32, 1 ≤ k → k ≤ 5 → vp_in (x3 + k) L) (hstep : step_will Rel) (hn : ∀ c, c < 59 → c ∈ n) (hR : Rel n S T) (hL : L2 D kA lyc lyr n s.heap S T H locs) (hl : lv_has ls 4 [(3, .int x3), (0, .ref b), (1, .ref (lyc 0)), (2, .ref (lyr 0))])
    (next : ∀ (n1 : List Nat) (S1 T1 : St) (H1 : Heap) (locs1 : List Loc) (ls1 : Array Slot), (∀ c, c < 59 → c ∈ n1) → Rel n1 S1 T1 → L2 D kA lyc lyr n1 s.heap S1 T1 H1 locs1 → lv_has ls1 4 [(3, .int x3), (0, .ref b), (1, .ref (lyc 0)), (2, .ref (lyr 0))] → W p l e room_1 s m #[Value.ref b] below meth c H1 locs1 (cells + 2) (slots + 42) Qw (F0 m 1595 ls1 [])) : W p l e room_1 s m #[Value.ref b] below meth c H locs cells slots Qw (F0 m 991 ls []) := by
  obtain ⟨hx, hb, hml, hown, hts, hXs, hbl, hK, hN, hXs2, hly⟩ := hC
  have hbA : ¬ (fun q : Nat => s.heap.size ≤ q) b := Nat.not_le.mpr hbl
  refine lv_aload_n hx hb dL_law_991 rfl (lv_at hl 2 rfl) ?_
  refine lv_aload_n hx hb dL_law_992 rfl (lv_at hl 1 rfl) ?_
  refine lv_iload_n hx hb dL_law_993 rfl (lv_at hl 0 rfl) ?_
  refine lv_iconst (v := 1) hx hb dL_law_994 (by decide +kernel) ?_
  refine lv_iadd hx hb dL_law_995 ?_
  refine va_sld hx hb hXs hbl hbA hL.2.2.2.2.2 (h5 1 (by decide) (by decide)) dL_law_996 ?_
  refine lv_aload_n hx hb dL_law_997 rfl (lv_at hl 1 rfl) ?_
  refine lv_iload_n hx hb dL_law_998 rfl (lv_at hl 0 rfl) ?_
  refine lv_iconst (v := 2) hx hb dL_law_999 (by decide +kernel) ?_
  refine lv_iadd hx hb dL_law_1000 ?_
  refine va_sld hx hb hXs hbl hbA hL.2.2.2.2.2 (h5 2 (by decide) (by decide)) dL_law_1001 ?_
  refine L2.aftC (va_runV (As := [.int (xs (x3 + (1 : Int32)).toNatClampNeg), .int (xs (x3 + (2 : Int32)).toNatClampNeg)]) (rest := []) ⟨hx, hb, hml, hown, hts⟩ (c_X11_will l D kA lyc n hn (Ac lyc n) (xs (x3 + (1 : Int32)).toNatClampNeg) (xs (x3 + (2 : Int32)).toNatClampNeg) S _) (cwV 2 hts lg_X11_will rfl rfl rfl (by decide +kernel) ⟨(Nat.le_of_ble_eq_true rfl), (Nat.le_of_ble_eq_true rfl)⟩) ⟨k_blind, hL.recvC hK hn, hL.preC hK hN (hstep n S T (xs (x3 + (1 : Int32)).toNatClampNeg) (xs (x3 + (2 : Int32)).toNatClampNeg) hn hR)⟩ rfl rfl hl.1 rfl (lv_room (Nat.le_of_ble_eq_true rfl)) dL_law_1002 ⟨by have := hc1; show _ ≤ 600000; omega, by have := hc2; show _ ≤ 7302250; omega⟩) hL (fun r S H locs hw hL => ?_)
  refine lv_aload_n hx hb dL_law_1005 rfl (lv_at hl 3 rfl) ?_
  refine lv_aload_n hx hb dL_law_1006 rfl (lv_at hl 1 rfl) ?_
  refine lv_iload_n hx hb dL_law_1007 rfl (lv_at hl 0 rfl) ?_
  refine lv_iconst (v := 1) hx hb dL_law_1008 (by decide +kernel) ?_
  refine lv_iadd hx hb dL_law_1009 ?_
  refine va_sld hx hb hXs hbl hbA hL.2.2.2.2.2 (h5 1 (by decide) (by decide)) dL_law_1010 ?_
  refine lv_aload_n hx hb dL_law_1011 rfl (lv_at hl 1 rfl) ?_
  refine lv_iload_n hx hb dL_law_1012 rfl (lv_at hl 0 rfl) ?_
  refine lv_iconst (v := 2) hx hb dL_law_1013 (by decide +kernel) ?_
  refine lv_iadd hx hb dL_law_1014 ?_
  refine va_sld hx hb hXs hbl hbA hL.2.2.2.2.2 (h5 2 (by decide) (by decide)) dL_law_1015 ?_
  refine L2.aftR (va_runV (As := [.int (xs (x3 + (1 : Int32)).toNatClampNeg), .int (xs (x3 + (2 : Int32)).toNatClampNeg)]) (rest := [.int r]) ⟨hx, hb, hml, hown, hts⟩ (c_X12_will l D kA lyr rcs rcs_in (Ac lyr rcs) (xs (x3 + (1 : Int32)).toNatClampNeg) (xs (x3 + (2 : Int32)).toNatClampNeg) T _) (cwV 2 hts lg_X12_will rfl rfl rfl (by decide +kernel) ⟨(Nat.le_of_ble_eq_true rfl), (Nat.le_of_ble_eq_true rfl)⟩) ⟨k_blind, hL.recvR hK, hL.preR hK hN hw⟩ rfl rfl hl.1 rfl (lv_room (Nat.le_of_ble_eq_true rfl)) dL_law_1016 ⟨by have := hc1; show _ ≤ 600000; omega, by have := hc2; show _ ≤ 7302250; omega⟩) hL (fun r2 T H locs hw hL => ?_)
  refine lv_icmp_eq (tgt := 1595) hx hb dL_law_1019 (by decide) (fun _ => ?_) (fun hc => absurd hw.1 hc)
  refine W.widen (k := cells + 2) (n := slots + 42) (by omega) (by omega) ?_
  exact next n S T H locs ls hn hw.2 hL hl
/-- a step of seed keeps the relation, and the answers are the same -/
def step_seed (Rel : List Nat → St → St → Prop) : Prop := ∀ (n : List Nat) (S T : St) (a1 : Int32), (∀ c, c < 59 → c ∈ n) → Rel n S T → wp_X11_seed a1 S (fun r S1 => wp_X12_seed a1 T (fun r1 T1 => r = r1 ∧ Rel n S1 T1))
set_option maxHeartbeats 4000000 in
set_option maxRecDepth 100000 in
theorem lc_seed (hC : LW p s m meth c D kA adK adV lyc lyr b L xs) (hc1 : cells + 2 ≤ 600000) (hc2 : slots + 42 ≤ 7302250) (h5 : ∀ k : Int32, 1 ≤ k → k ≤ 5 → vp_in (x3 + k) L) (hstep : step_seed Rel) (hn : ∀ c, c < 59 → c ∈ n) (hR : Rel n S T) (hL : L2 D kA lyc lyr n s.heap S T H locs) (hl : lv_has ls 4 [(3, .int x3), (0, .ref b), (1, .ref (lyc 0)), (2, .ref (lyr 0))])
    (next : ∀ (n1 : List Nat) (S1 T1 : St) (H1 : Heap) (locs1 : List Loc) (ls1 : Array Slot), (∀ c, c < 59 → c ∈ n1) → Rel n1 S1 T1 → L2 D kA lyc lyr n1 s.heap S1 T1 H1 locs1 → lv_has ls1 4 [(3, .int x3), (0, .ref b), (1, .ref (lyc 0)), (2, .ref (lyr 0))] → W p l e room_1 s m #[Value.ref b] below meth c H1 locs1 (cells + 2) (slots + 42) Qw (F0 m 1595 ls1 [])) : W p l e room_1 s m #[Value.ref b] below meth c H locs cells slots Qw (F0 m 1024 ls []) := by
  obtain ⟨hx, hb, hml, hown, hts, hXs, hbl, hK, hN, hXs2, hly⟩ := hC
  have hbA : ¬ (fun q : Nat => s.heap.size ≤ q) b := Nat.not_le.mpr hbl
  refine lv_aload_n hx hb dL_law_1024 rfl (lv_at hl 2 rfl) ?_
  refine lv_aload_n hx hb dL_law_1025 rfl (lv_at hl 1 rfl) ?_
  refine lv_iload_n hx hb dL_law_1026 rfl (lv_at hl 0 rfl) ?_
  refine lv_iconst (v := 1) hx hb dL_law_1027 (by decide +kernel) ?_
  refine lv_iadd hx hb dL_law_1028 ?_
  refine va_sld hx hb hXs hbl hbA hL.2.2.2.2.2 (h5 1 (by decide) (by decide)) dL_law_1029 ?_
  refine L2.aftC (va_runV (As := [.int (xs (x3 + (1 : Int32)).toNatClampNeg)]) (rest := []) ⟨hx, hb, hml, hown, hts⟩ (c_X11_seed l D kA lyc n hn (Ac lyc n) (xs (x3 + (1 : Int32)).toNatClampNeg) S _) (cwV 1 hts lg_X11_seed rfl rfl rfl (by decide +kernel) ⟨(Nat.le_of_ble_eq_true rfl), (Nat.le_of_ble_eq_true rfl)⟩) ⟨k_blind, hL.recvC hK hn, hL.preC hK hN (hstep n S T (xs (x3 + (1 : Int32)).toNatClampNeg) hn hR)⟩ rfl rfl hl.1 rfl (lv_room (Nat.le_of_ble_eq_true rfl)) dL_law_1030 ⟨by have := hc1; show _ ≤ 600000; omega, by have := hc2; show _ ≤ 7302250; omega⟩) hL (fun r S H locs hw hL => ?_)
  refine lv_aload_n hx hb dL_law_1033 rfl (lv_at hl 3 rfl) ?_
  refine lv_aload_n hx hb dL_law_1034 rfl (lv_at hl 1 rfl) ?_
  refine lv_iload_n hx hb dL_law_1035 rfl (lv_at hl 0 rfl) ?_
  refine lv_iconst (v := 1) hx hb dL_law_1036 (by decide +kernel) ?_
  refine lv_iadd hx hb dL_law_1037 ?_
  refine va_sld hx hb hXs hbl hbA hL.2.2.2.2.2 (h5 1 (by decide) (by decide)) dL_law_1038 ?_
  refine L2.aftR (va_runV (As := [.int (xs (x3 + (1 : Int32)).toNatClampNeg)]) (rest := [.int r]) ⟨hx, hb, hml, hown, hts⟩ (c_X12_seed l D kA lyr rcs rcs_in (Ac lyr rcs) (xs (x3 + (1 : Int32)).toNatClampNeg) T _) (cwV 1 hts lg_X12_seed rfl rfl rfl (by decide +kernel) ⟨(Nat.le_of_ble_eq_true rfl), (Nat.le_of_ble_eq_true rfl)⟩) ⟨k_blind, hL.recvR hK, hL.preR hK hN hw⟩ rfl rfl hl.1 rfl (lv_room (Nat.le_of_ble_eq_true rfl)) dL_law_1039 ⟨by have := hc1; show _ ≤ 600000; omega, by have := hc2; show _ ≤ 7302250; omega⟩) hL (fun r2 T H locs hw hL => ?_)
  refine lv_icmp_eq (tgt := 1595) hx hb dL_law_1042 (by decide) (fun _ => ?_) (fun hc => absurd hw.1 hc)
  refine W.widen (k := cells + 2) (n := slots + 42) (by omega) (by omega) ?_
  exact next n S T H locs ls hn hw.2 hL hl
/-- a step of draw keeps the relation, and the answers are the same -/
def step_draw (Rel : List Nat → St → St → Prop) : Prop := ∀ (n : List Nat) (S T : St) (a1 : Int32) (a2 : Int32), (∀ c, c < 59 → c ∈ n) → Rel n S T → wp_X11_draw a1 a2 S (fun r S1 => wp_X12_draw a1 a2 T (fun r1 T1 => r = r1 ∧ Rel n S1 T1))
set_option maxHeartbeats 4000000 in
set_option maxRecDepth 100000 in
theorem lc_draw (hC : LW p s m meth c D kA adK adV lyc lyr b L xs) (hc1 : cells + 2 ≤ 600000) (hc2 : slots + 42 ≤ 7302250) (h5 : ∀ k : Int32, 1 ≤ k → k ≤ 5 → vp_in (x3 + k) L) (hstep : step_draw Rel) (hn : ∀ c, c < 59 → c ∈ n) (hR : Rel n S T) (hL : L2 D kA lyc lyr n s.heap S T H locs) (hl : lv_has ls 4 [(3, .int x3), (0, .ref b), (1, .ref (lyc 0)), (2, .ref (lyr 0))])
    (next : ∀ (n1 : List Nat) (S1 T1 : St) (H1 : Heap) (locs1 : List Loc) (ls1 : Array Slot), (∀ c, c < 59 → c ∈ n1) → Rel n1 S1 T1 → L2 D kA lyc lyr n1 s.heap S1 T1 H1 locs1 → lv_has ls1 4 [(3, .int x3), (0, .ref b), (1, .ref (lyc 0)), (2, .ref (lyr 0))] → W p l e room_1 s m #[Value.ref b] below meth c H1 locs1 (cells + 2) (slots + 42) Qw (F0 m 1595 ls1 [])) : W p l e room_1 s m #[Value.ref b] below meth c H locs cells slots Qw (F0 m 1047 ls []) := by
  obtain ⟨hx, hb, hml, hown, hts, hXs, hbl, hK, hN, hXs2, hly⟩ := hC
  have hbA : ¬ (fun q : Nat => s.heap.size ≤ q) b := Nat.not_le.mpr hbl
  refine lv_aload_n hx hb dL_law_1047 rfl (lv_at hl 2 rfl) ?_
  refine lv_aload_n hx hb dL_law_1048 rfl (lv_at hl 1 rfl) ?_
  refine lv_iload_n hx hb dL_law_1049 rfl (lv_at hl 0 rfl) ?_
  refine lv_iconst (v := 1) hx hb dL_law_1050 (by decide +kernel) ?_
  refine lv_iadd hx hb dL_law_1051 ?_
  refine va_sld hx hb hXs hbl hbA hL.2.2.2.2.2 (h5 1 (by decide) (by decide)) dL_law_1052 ?_
  refine lv_aload_n hx hb dL_law_1053 rfl (lv_at hl 1 rfl) ?_
  refine lv_iload_n hx hb dL_law_1054 rfl (lv_at hl 0 rfl) ?_
  refine lv_iconst (v := 2) hx hb dL_law_1055 (by decide +kernel) ?_
  refine lv_iadd hx hb dL_law_1056 ?_
  refine va_sld hx hb hXs hbl hbA hL.2.2.2.2.2 (h5 2 (by decide) (by decide)) dL_law_1057 ?_
  refine L2.aftC (va_runV (As := [.int (xs (x3 + (1 : Int32)).toNatClampNeg), .int (xs (x3 + (2 : Int32)).toNatClampNeg)]) (rest := []) ⟨hx, hb, hml, hown, hts⟩ (c_X11_draw l D kA lyc n hn (Ac lyc n) (xs (x3 + (1 : Int32)).toNatClampNeg) (xs (x3 + (2 : Int32)).toNatClampNeg) S _) (cwV 2 hts lg_X11_draw rfl rfl rfl (by decide +kernel) ⟨(Nat.le_of_ble_eq_true rfl), (Nat.le_of_ble_eq_true rfl)⟩) ⟨k_blind, hL.recvC hK hn, hL.preC hK hN (hstep n S T (xs (x3 + (1 : Int32)).toNatClampNeg) (xs (x3 + (2 : Int32)).toNatClampNeg) hn hR)⟩ rfl rfl hl.1 rfl (lv_room (Nat.le_of_ble_eq_true rfl)) dL_law_1058 ⟨by have := hc1; show _ ≤ 600000; omega, by have := hc2; show _ ≤ 7302250; omega⟩) hL (fun r S H locs hw hL => ?_)
  refine lv_aload_n hx hb dL_law_1061 rfl (lv_at hl 3 rfl) ?_
  refine lv_aload_n hx hb dL_law_1062 rfl (lv_at hl 1 rfl) ?_
  refine lv_iload_n hx hb dL_law_1063 rfl (lv_at hl 0 rfl) ?_
  refine lv_iconst (v := 1) hx hb dL_law_1064 (by decide +kernel) ?_
  refine lv_iadd hx hb dL_law_1065 ?_
  refine va_sld hx hb hXs hbl hbA hL.2.2.2.2.2 (h5 1 (by decide) (by decide)) dL_law_1066 ?_
  refine lv_aload_n hx hb dL_law_1067 rfl (lv_at hl 1 rfl) ?_
  refine lv_iload_n hx hb dL_law_1068 rfl (lv_at hl 0 rfl) ?_
  refine lv_iconst (v := 2) hx hb dL_law_1069 (by decide +kernel) ?_
  refine lv_iadd hx hb dL_law_1070 ?_
  refine va_sld hx hb hXs hbl hbA hL.2.2.2.2.2 (h5 2 (by decide) (by decide)) dL_law_1071 ?_
  refine L2.aftR (va_runV (As := [.int (xs (x3 + (1 : Int32)).toNatClampNeg), .int (xs (x3 + (2 : Int32)).toNatClampNeg)]) (rest := [.int r]) ⟨hx, hb, hml, hown, hts⟩ (c_X12_draw l D kA lyr rcs rcs_in (Ac lyr rcs) (xs (x3 + (1 : Int32)).toNatClampNeg) (xs (x3 + (2 : Int32)).toNatClampNeg) T _) (cwV 2 hts lg_X12_draw rfl rfl rfl (by decide +kernel) ⟨(Nat.le_of_ble_eq_true rfl), (Nat.le_of_ble_eq_true rfl)⟩) ⟨k_blind, hL.recvR hK, hL.preR hK hN hw⟩ rfl rfl hl.1 rfl (lv_room (Nat.le_of_ble_eq_true rfl)) dL_law_1072 ⟨by have := hc1; show _ ≤ 600000; omega, by have := hc2; show _ ≤ 7302250; omega⟩) hL (fun r2 T H locs hw hL => ?_)
  refine lv_icmp_eq (tgt := 1595) hx hb dL_law_1075 (by decide) (fun _ => ?_) (fun hc => absurd hw.1 hc)
  refine W.widen (k := cells + 2) (n := slots + 42) (by omega) (by omega) ?_
  exact next n S T H locs ls hn hw.2 hL hl
/-- a step of prove keeps the relation, and the answers are the same -/
def step_prove (Rel : List Nat → St → St → Prop) : Prop := ∀ (n : List Nat) (S T : St) (a1 : Int32) (a2 : Int32), (∀ c, c < 59 → c ∈ n) → Rel n S T → wp_X11_prove a1 a2 S (fun r S1 => wp_X12_prove a1 a2 T (fun r1 T1 => r = r1 ∧ Rel n S1 T1))
set_option maxHeartbeats 4000000 in
set_option maxRecDepth 100000 in
theorem lc_prove (hC : LW p s m meth c D kA adK adV lyc lyr b L xs) (hc1 : cells + 2 ≤ 600000) (hc2 : slots + 42 ≤ 7302250) (h5 : ∀ k : Int32, 1 ≤ k → k ≤ 5 → vp_in (x3 + k) L) (hstep : step_prove Rel) (hn : ∀ c, c < 59 → c ∈ n) (hR : Rel n S T) (hL : L2 D kA lyc lyr n s.heap S T H locs) (hl : lv_has ls 4 [(3, .int x3), (0, .ref b), (1, .ref (lyc 0)), (2, .ref (lyr 0))])
    (next : ∀ (n1 : List Nat) (S1 T1 : St) (H1 : Heap) (locs1 : List Loc) (ls1 : Array Slot), (∀ c, c < 59 → c ∈ n1) → Rel n1 S1 T1 → L2 D kA lyc lyr n1 s.heap S1 T1 H1 locs1 → lv_has ls1 4 [(3, .int x3), (0, .ref b), (1, .ref (lyc 0)), (2, .ref (lyr 0))] → W p l e room_1 s m #[Value.ref b] below meth c H1 locs1 (cells + 2) (slots + 42) Qw (F0 m 1595 ls1 [])) : W p l e room_1 s m #[Value.ref b] below meth c H locs cells slots Qw (F0 m 1080 ls []) := by
  obtain ⟨hx, hb, hml, hown, hts, hXs, hbl, hK, hN, hXs2, hly⟩ := hC
  have hbA : ¬ (fun q : Nat => s.heap.size ≤ q) b := Nat.not_le.mpr hbl
  refine lv_aload_n hx hb dL_law_1080 rfl (lv_at hl 2 rfl) ?_
  refine lv_aload_n hx hb dL_law_1081 rfl (lv_at hl 1 rfl) ?_
  refine lv_iload_n hx hb dL_law_1082 rfl (lv_at hl 0 rfl) ?_
  refine lv_iconst (v := 1) hx hb dL_law_1083 (by decide +kernel) ?_
  refine lv_iadd hx hb dL_law_1084 ?_
  refine va_sld hx hb hXs hbl hbA hL.2.2.2.2.2 (h5 1 (by decide) (by decide)) dL_law_1085 ?_
  refine lv_aload_n hx hb dL_law_1086 rfl (lv_at hl 1 rfl) ?_
  refine lv_iload_n hx hb dL_law_1087 rfl (lv_at hl 0 rfl) ?_
  refine lv_iconst (v := 2) hx hb dL_law_1088 (by decide +kernel) ?_
  refine lv_iadd hx hb dL_law_1089 ?_
  refine va_sld hx hb hXs hbl hbA hL.2.2.2.2.2 (h5 2 (by decide) (by decide)) dL_law_1090 ?_
  refine L2.aftC (va_runV (As := [.int (xs (x3 + (1 : Int32)).toNatClampNeg), .int (xs (x3 + (2 : Int32)).toNatClampNeg)]) (rest := []) ⟨hx, hb, hml, hown, hts⟩ (c_X11_prove l D kA lyc n hn (Ac lyc n) (xs (x3 + (1 : Int32)).toNatClampNeg) (xs (x3 + (2 : Int32)).toNatClampNeg) S _) (cwV 2 hts lg_X11_prove rfl rfl rfl (by decide +kernel) ⟨(Nat.le_of_ble_eq_true rfl), (Nat.le_of_ble_eq_true rfl)⟩) ⟨k_blind, hL.recvC hK hn, hL.preC hK hN (hstep n S T (xs (x3 + (1 : Int32)).toNatClampNeg) (xs (x3 + (2 : Int32)).toNatClampNeg) hn hR)⟩ rfl rfl hl.1 rfl (lv_room (Nat.le_of_ble_eq_true rfl)) dL_law_1091 ⟨by have := hc1; show _ ≤ 600000; omega, by have := hc2; show _ ≤ 7302250; omega⟩) hL (fun r S H locs hw hL => ?_)
  refine lv_aload_n hx hb dL_law_1094 rfl (lv_at hl 3 rfl) ?_
  refine lv_aload_n hx hb dL_law_1095 rfl (lv_at hl 1 rfl) ?_
  refine lv_iload_n hx hb dL_law_1096 rfl (lv_at hl 0 rfl) ?_
  refine lv_iconst (v := 1) hx hb dL_law_1097 (by decide +kernel) ?_
  refine lv_iadd hx hb dL_law_1098 ?_
  refine va_sld hx hb hXs hbl hbA hL.2.2.2.2.2 (h5 1 (by decide) (by decide)) dL_law_1099 ?_
  refine lv_aload_n hx hb dL_law_1100 rfl (lv_at hl 1 rfl) ?_
  refine lv_iload_n hx hb dL_law_1101 rfl (lv_at hl 0 rfl) ?_
  refine lv_iconst (v := 2) hx hb dL_law_1102 (by decide +kernel) ?_
  refine lv_iadd hx hb dL_law_1103 ?_
  refine va_sld hx hb hXs hbl hbA hL.2.2.2.2.2 (h5 2 (by decide) (by decide)) dL_law_1104 ?_
  refine L2.aftR (va_runV (As := [.int (xs (x3 + (1 : Int32)).toNatClampNeg), .int (xs (x3 + (2 : Int32)).toNatClampNeg)]) (rest := [.int r]) ⟨hx, hb, hml, hown, hts⟩ (c_X12_prove l D kA lyr rcs rcs_in (Ac lyr rcs) (xs (x3 + (1 : Int32)).toNatClampNeg) (xs (x3 + (2 : Int32)).toNatClampNeg) T _) (cwV 2 hts lg_X12_prove rfl rfl rfl (by decide +kernel) ⟨(Nat.le_of_ble_eq_true rfl), (Nat.le_of_ble_eq_true rfl)⟩) ⟨k_blind, hL.recvR hK, hL.preR hK hN hw⟩ rfl rfl hl.1 rfl (lv_room (Nat.le_of_ble_eq_true rfl)) dL_law_1105 ⟨by have := hc1; show _ ≤ 600000; omega, by have := hc2; show _ ≤ 7302250; omega⟩) hL (fun r2 T H locs hw hL => ?_)
  refine lv_icmp_eq (tgt := 1595) hx hb dL_law_1108 (by decide) (fun _ => ?_) (fun hc => absurd hw.1 hc)
  refine W.widen (k := cells + 2) (n := slots + 42) (by omega) (by omega) ?_
  exact next n S T H locs ls hn hw.2 hL hl
/-- a step of row keeps the relation, and the answers are the same -/
def step_row (Rel : List Nat → St → St → Prop) : Prop := ∀ (n : List Nat) (S T : St) (a1 : Int32) (a2 : Int32), (∀ c, c < 59 → c ∈ n) → Rel n S T → wp_X11_row a1 a2 S (fun r S1 => wp_X12_row a1 a2 T (fun r1 T1 => r = r1 ∧ Rel n S1 T1))
set_option maxHeartbeats 4000000 in
set_option maxRecDepth 100000 in
theorem lc_row (hC : LW p s m meth c D kA adK adV lyc lyr b L xs) (hc1 : cells + 2 ≤ 600000) (hc2 : slots + 42 ≤ 7302250) (h5 : ∀ k : Int32, 1 ≤ k → k ≤ 5 → vp_in (x3 + k) L) (hstep : step_row Rel) (hn : ∀ c, c < 59 → c ∈ n) (hR : Rel n S T) (hL : L2 D kA lyc lyr n s.heap S T H locs) (hl : lv_has ls 4 [(3, .int x3), (0, .ref b), (1, .ref (lyc 0)), (2, .ref (lyr 0))])
    (next : ∀ (n1 : List Nat) (S1 T1 : St) (H1 : Heap) (locs1 : List Loc) (ls1 : Array Slot), (∀ c, c < 59 → c ∈ n1) → Rel n1 S1 T1 → L2 D kA lyc lyr n1 s.heap S1 T1 H1 locs1 → lv_has ls1 4 [(3, .int x3), (0, .ref b), (1, .ref (lyc 0)), (2, .ref (lyr 0))] → W p l e room_1 s m #[Value.ref b] below meth c H1 locs1 (cells + 2) (slots + 42) Qw (F0 m 1595 ls1 [])) : W p l e room_1 s m #[Value.ref b] below meth c H locs cells slots Qw (F0 m 1113 ls []) := by
  obtain ⟨hx, hb, hml, hown, hts, hXs, hbl, hK, hN, hXs2, hly⟩ := hC
  have hbA : ¬ (fun q : Nat => s.heap.size ≤ q) b := Nat.not_le.mpr hbl
  refine lv_aload_n hx hb dL_law_1113 rfl (lv_at hl 2 rfl) ?_
  refine lv_aload_n hx hb dL_law_1114 rfl (lv_at hl 1 rfl) ?_
  refine lv_iload_n hx hb dL_law_1115 rfl (lv_at hl 0 rfl) ?_
  refine lv_iconst (v := 1) hx hb dL_law_1116 (by decide +kernel) ?_
  refine lv_iadd hx hb dL_law_1117 ?_
  refine va_sld hx hb hXs hbl hbA hL.2.2.2.2.2 (h5 1 (by decide) (by decide)) dL_law_1118 ?_
  refine lv_aload_n hx hb dL_law_1119 rfl (lv_at hl 1 rfl) ?_
  refine lv_iload_n hx hb dL_law_1120 rfl (lv_at hl 0 rfl) ?_
  refine lv_iconst (v := 2) hx hb dL_law_1121 (by decide +kernel) ?_
  refine lv_iadd hx hb dL_law_1122 ?_
  refine va_sld hx hb hXs hbl hbA hL.2.2.2.2.2 (h5 2 (by decide) (by decide)) dL_law_1123 ?_
  refine L2.aftC (va_runV (As := [.int (xs (x3 + (1 : Int32)).toNatClampNeg), .int (xs (x3 + (2 : Int32)).toNatClampNeg)]) (rest := []) ⟨hx, hb, hml, hown, hts⟩ (c_X11_row l D kA lyc n hn (Ac lyc n) (xs (x3 + (1 : Int32)).toNatClampNeg) (xs (x3 + (2 : Int32)).toNatClampNeg) S _) (cwV 2 hts lg_X11_row rfl rfl rfl (by decide +kernel) ⟨(Nat.le_of_ble_eq_true rfl), (Nat.le_of_ble_eq_true rfl)⟩) ⟨k_blind, hL.recvC hK hn, hL.preC hK hN (hstep n S T (xs (x3 + (1 : Int32)).toNatClampNeg) (xs (x3 + (2 : Int32)).toNatClampNeg) hn hR)⟩ rfl rfl hl.1 rfl (lv_room (Nat.le_of_ble_eq_true rfl)) dL_law_1124 ⟨by have := hc1; show _ ≤ 600000; omega, by have := hc2; show _ ≤ 7302250; omega⟩) hL (fun r S H locs hw hL => ?_)
  refine lv_aload_n hx hb dL_law_1127 rfl (lv_at hl 3 rfl) ?_
  refine lv_aload_n hx hb dL_law_1128 rfl (lv_at hl 1 rfl) ?_
  refine lv_iload_n hx hb dL_law_1129 rfl (lv_at hl 0 rfl) ?_
  refine lv_iconst (v := 1) hx hb dL_law_1130 (by decide +kernel) ?_
  refine lv_iadd hx hb dL_law_1131 ?_
  refine va_sld hx hb hXs hbl hbA hL.2.2.2.2.2 (h5 1 (by decide) (by decide)) dL_law_1132 ?_
  refine lv_aload_n hx hb dL_law_1133 rfl (lv_at hl 1 rfl) ?_
  refine lv_iload_n hx hb dL_law_1134 rfl (lv_at hl 0 rfl) ?_
  refine lv_iconst (v := 2) hx hb dL_law_1135 (by decide +kernel) ?_
  refine lv_iadd hx hb dL_law_1136 ?_
  refine va_sld hx hb hXs hbl hbA hL.2.2.2.2.2 (h5 2 (by decide) (by decide)) dL_law_1137 ?_
  refine L2.aftR (va_runV (As := [.int (xs (x3 + (1 : Int32)).toNatClampNeg), .int (xs (x3 + (2 : Int32)).toNatClampNeg)]) (rest := [.int r]) ⟨hx, hb, hml, hown, hts⟩ (c_X12_row l D kA lyr rcs rcs_in (Ac lyr rcs) (xs (x3 + (1 : Int32)).toNatClampNeg) (xs (x3 + (2 : Int32)).toNatClampNeg) T _) (cwV 2 hts lg_X12_row rfl rfl rfl (by decide +kernel) ⟨(Nat.le_of_ble_eq_true rfl), (Nat.le_of_ble_eq_true rfl)⟩) ⟨k_blind, hL.recvR hK, hL.preR hK hN hw⟩ rfl rfl hl.1 rfl (lv_room (Nat.le_of_ble_eq_true rfl)) dL_law_1138 ⟨by have := hc1; show _ ≤ 600000; omega, by have := hc2; show _ ≤ 7302250; omega⟩) hL (fun r2 T H locs hw hL => ?_)
  refine lv_icmp_eq (tgt := 1595) hx hb dL_law_1141 (by decide) (fun _ => ?_) (fun hc => absurd hw.1 hc)
  refine W.widen (k := cells + 2) (n := slots + 42) (by omega) (by omega) ?_
  exact next n S T H locs ls hn hw.2 hL hl
/-- a step of alterRow keeps the relation, and the answers are the same -/
def step_alterRow (Rel : List Nat → St → St → Prop) : Prop := ∀ (n : List Nat) (S T : St) (a1 : Int32) (a2 : Int32) (a3 : Int32), (∀ c, c < 59 → c ∈ n) → Rel n S T → wp_X11_alterRow a1 a2 a3 S (fun r S1 => wp_X12_alterRow a1 a2 a3 T (fun r1 T1 => r = r1 ∧ Rel n S1 T1))
set_option maxHeartbeats 4000000 in
set_option maxRecDepth 100000 in
theorem lc_alterRow (hC : LW p s m meth c D kA adK adV lyc lyr b L xs) (hc1 : cells + 2 ≤ 600000) (hc2 : slots + 42 ≤ 7302250) (h5 : ∀ k : Int32, 1 ≤ k → k ≤ 5 → vp_in (x3 + k) L) (hstep : step_alterRow Rel) (hn : ∀ c, c < 59 → c ∈ n) (hR : Rel n S T) (hL : L2 D kA lyc lyr n s.heap S T H locs) (hl : lv_has ls 4 [(3, .int x3), (0, .ref b), (1, .ref (lyc 0)), (2, .ref (lyr 0))])
    (next : ∀ (n1 : List Nat) (S1 T1 : St) (H1 : Heap) (locs1 : List Loc) (ls1 : Array Slot), (∀ c, c < 59 → c ∈ n1) → Rel n1 S1 T1 → L2 D kA lyc lyr n1 s.heap S1 T1 H1 locs1 → lv_has ls1 4 [(3, .int x3), (0, .ref b), (1, .ref (lyc 0)), (2, .ref (lyr 0))] → W p l e room_1 s m #[Value.ref b] below meth c H1 locs1 (cells + 2) (slots + 42) Qw (F0 m 1595 ls1 [])) : W p l e room_1 s m #[Value.ref b] below meth c H locs cells slots Qw (F0 m 1146 ls []) := by
  obtain ⟨hx, hb, hml, hown, hts, hXs, hbl, hK, hN, hXs2, hly⟩ := hC
  have hbA : ¬ (fun q : Nat => s.heap.size ≤ q) b := Nat.not_le.mpr hbl
  refine lv_aload_n hx hb dL_law_1146 rfl (lv_at hl 2 rfl) ?_
  refine lv_aload_n hx hb dL_law_1147 rfl (lv_at hl 1 rfl) ?_
  refine lv_iload_n hx hb dL_law_1148 rfl (lv_at hl 0 rfl) ?_
  refine lv_iconst (v := 1) hx hb dL_law_1149 (by decide +kernel) ?_
  refine lv_iadd hx hb dL_law_1150 ?_
  refine va_sld hx hb hXs hbl hbA hL.2.2.2.2.2 (h5 1 (by decide) (by decide)) dL_law_1151 ?_
  refine lv_aload_n hx hb dL_law_1152 rfl (lv_at hl 1 rfl) ?_
  refine lv_iload_n hx hb dL_law_1153 rfl (lv_at hl 0 rfl) ?_
  refine lv_iconst (v := 2) hx hb dL_law_1154 (by decide +kernel) ?_
  refine lv_iadd hx hb dL_law_1155 ?_
  refine va_sld hx hb hXs hbl hbA hL.2.2.2.2.2 (h5 2 (by decide) (by decide)) dL_law_1156 ?_
  refine lv_aload_n hx hb dL_law_1157 rfl (lv_at hl 1 rfl) ?_
  refine lv_iload_n hx hb dL_law_1158 rfl (lv_at hl 0 rfl) ?_
  refine lv_iconst (v := 3) hx hb dL_law_1159 (by decide +kernel) ?_
  refine lv_iadd hx hb dL_law_1160 ?_
  refine va_sld hx hb hXs hbl hbA hL.2.2.2.2.2 (h5 3 (by decide) (by decide)) dL_law_1161 ?_
  refine L2.aftC (va_runV (As := [.int (xs (x3 + (1 : Int32)).toNatClampNeg), .int (xs (x3 + (2 : Int32)).toNatClampNeg), .int (xs (x3 + (3 : Int32)).toNatClampNeg)]) (rest := []) ⟨hx, hb, hml, hown, hts⟩ (c_X11_alterRow l D kA lyc n hn (Ac lyc n) (xs (x3 + (1 : Int32)).toNatClampNeg) (xs (x3 + (2 : Int32)).toNatClampNeg) (xs (x3 + (3 : Int32)).toNatClampNeg) S _) (cwV 3 hts lg_X11_alterRow rfl rfl rfl (by decide +kernel) ⟨(Nat.le_of_ble_eq_true rfl), (Nat.le_of_ble_eq_true rfl)⟩) ⟨k_blind, hL.recvC hK hn, hL.preC hK hN (hstep n S T (xs (x3 + (1 : Int32)).toNatClampNeg) (xs (x3 + (2 : Int32)).toNatClampNeg) (xs (x3 + (3 : Int32)).toNatClampNeg) hn hR)⟩ rfl rfl hl.1 rfl (lv_room (Nat.le_of_ble_eq_true rfl)) dL_law_1162 ⟨by have := hc1; show _ ≤ 600000; omega, by have := hc2; show _ ≤ 7302250; omega⟩) hL (fun r S H locs hw hL => ?_)
  refine lv_aload_n hx hb dL_law_1165 rfl (lv_at hl 3 rfl) ?_
  refine lv_aload_n hx hb dL_law_1166 rfl (lv_at hl 1 rfl) ?_
  refine lv_iload_n hx hb dL_law_1167 rfl (lv_at hl 0 rfl) ?_
  refine lv_iconst (v := 1) hx hb dL_law_1168 (by decide +kernel) ?_
  refine lv_iadd hx hb dL_law_1169 ?_
  refine va_sld hx hb hXs hbl hbA hL.2.2.2.2.2 (h5 1 (by decide) (by decide)) dL_law_1170 ?_
  refine lv_aload_n hx hb dL_law_1171 rfl (lv_at hl 1 rfl) ?_
  refine lv_iload_n hx hb dL_law_1172 rfl (lv_at hl 0 rfl) ?_
  refine lv_iconst (v := 2) hx hb dL_law_1173 (by decide +kernel) ?_
  refine lv_iadd hx hb dL_law_1174 ?_
  refine va_sld hx hb hXs hbl hbA hL.2.2.2.2.2 (h5 2 (by decide) (by decide)) dL_law_1175 ?_
  refine lv_aload_n hx hb dL_law_1176 rfl (lv_at hl 1 rfl) ?_
  refine lv_iload_n hx hb dL_law_1177 rfl (lv_at hl 0 rfl) ?_
  refine lv_iconst (v := 3) hx hb dL_law_1178 (by decide +kernel) ?_
  refine lv_iadd hx hb dL_law_1179 ?_
  refine va_sld hx hb hXs hbl hbA hL.2.2.2.2.2 (h5 3 (by decide) (by decide)) dL_law_1180 ?_
  refine L2.aftR (va_runV (As := [.int (xs (x3 + (1 : Int32)).toNatClampNeg), .int (xs (x3 + (2 : Int32)).toNatClampNeg), .int (xs (x3 + (3 : Int32)).toNatClampNeg)]) (rest := [.int r]) ⟨hx, hb, hml, hown, hts⟩ (c_X12_alterRow l D kA lyr rcs rcs_in (Ac lyr rcs) (xs (x3 + (1 : Int32)).toNatClampNeg) (xs (x3 + (2 : Int32)).toNatClampNeg) (xs (x3 + (3 : Int32)).toNatClampNeg) T _) (cwV 3 hts lg_X12_alterRow rfl rfl rfl (by decide +kernel) ⟨(Nat.le_of_ble_eq_true rfl), (Nat.le_of_ble_eq_true rfl)⟩) ⟨k_blind, hL.recvR hK, hL.preR hK hN hw⟩ rfl rfl hl.1 rfl (lv_room (Nat.le_of_ble_eq_true rfl)) dL_law_1181 ⟨by have := hc1; show _ ≤ 600000; omega, by have := hc2; show _ ≤ 7302250; omega⟩) hL (fun r2 T H locs hw hL => ?_)
  refine lv_icmp_eq (tgt := 1595) hx hb dL_law_1184 (by decide) (fun _ => ?_) (fun hc => absurd hw.1 hc)
  refine W.widen (k := cells + 2) (n := slots + 42) (by omega) (by omega) ?_
  exact next n S T H locs ls hn hw.2 hL hl
/-- a step of judge keeps the relation, and the answers are the same -/
def step_judge (Rel : List Nat → St → St → Prop) : Prop := ∀ (n : List Nat) (S T : St) (a1 : Int32), (∀ c, c < 59 → c ∈ n) → Rel n S T → wp_X11_judge a1 S (fun r S1 => wp_X12_judge a1 T (fun r1 T1 => r = r1 ∧ Rel n S1 T1))
set_option maxHeartbeats 4000000 in
set_option maxRecDepth 100000 in
theorem lc_judge (hC : LW p s m meth c D kA adK adV lyc lyr b L xs) (hc1 : cells + 2 ≤ 600000) (hc2 : slots + 42 ≤ 7302250) (h5 : ∀ k : Int32, 1 ≤ k → k ≤ 5 → vp_in (x3 + k) L) (hstep : step_judge Rel) (hn : ∀ c, c < 59 → c ∈ n) (hR : Rel n S T) (hL : L2 D kA lyc lyr n s.heap S T H locs) (hl : lv_has ls 4 [(3, .int x3), (0, .ref b), (1, .ref (lyc 0)), (2, .ref (lyr 0))])
    (next : ∀ (n1 : List Nat) (S1 T1 : St) (H1 : Heap) (locs1 : List Loc) (ls1 : Array Slot), (∀ c, c < 59 → c ∈ n1) → Rel n1 S1 T1 → L2 D kA lyc lyr n1 s.heap S1 T1 H1 locs1 → lv_has ls1 4 [(3, .int x3), (0, .ref b), (1, .ref (lyc 0)), (2, .ref (lyr 0))] → W p l e room_1 s m #[Value.ref b] below meth c H1 locs1 (cells + 2) (slots + 42) Qw (F0 m 1595 ls1 [])) : W p l e room_1 s m #[Value.ref b] below meth c H locs cells slots Qw (F0 m 1189 ls []) := by
  obtain ⟨hx, hb, hml, hown, hts, hXs, hbl, hK, hN, hXs2, hly⟩ := hC
  have hbA : ¬ (fun q : Nat => s.heap.size ≤ q) b := Nat.not_le.mpr hbl
  refine lv_aload_n hx hb dL_law_1189 rfl (lv_at hl 2 rfl) ?_
  refine lv_aload_n hx hb dL_law_1190 rfl (lv_at hl 1 rfl) ?_
  refine lv_iload_n hx hb dL_law_1191 rfl (lv_at hl 0 rfl) ?_
  refine lv_iconst (v := 1) hx hb dL_law_1192 (by decide +kernel) ?_
  refine lv_iadd hx hb dL_law_1193 ?_
  refine va_sld hx hb hXs hbl hbA hL.2.2.2.2.2 (h5 1 (by decide) (by decide)) dL_law_1194 ?_
  refine L2.aftC (va_runV (As := [.int (xs (x3 + (1 : Int32)).toNatClampNeg)]) (rest := []) ⟨hx, hb, hml, hown, hts⟩ (c_X11_judge l D kA lyc n hn (Ac lyc n) (xs (x3 + (1 : Int32)).toNatClampNeg) S _) (cwV 1 hts lg_X11_judge rfl rfl rfl (by decide +kernel) ⟨(Nat.le_of_ble_eq_true rfl), (Nat.le_of_ble_eq_true rfl)⟩) ⟨k_blind, hL.recvC hK hn, hL.preC hK hN (hstep n S T (xs (x3 + (1 : Int32)).toNatClampNeg) hn hR)⟩ rfl rfl hl.1 rfl (lv_room (Nat.le_of_ble_eq_true rfl)) dL_law_1195 ⟨by have := hc1; show _ ≤ 600000; omega, by have := hc2; show _ ≤ 7302250; omega⟩) hL (fun r S H locs hw hL => ?_)
  refine lv_aload_n hx hb dL_law_1198 rfl (lv_at hl 3 rfl) ?_
  refine lv_aload_n hx hb dL_law_1199 rfl (lv_at hl 1 rfl) ?_
  refine lv_iload_n hx hb dL_law_1200 rfl (lv_at hl 0 rfl) ?_
  refine lv_iconst (v := 1) hx hb dL_law_1201 (by decide +kernel) ?_
  refine lv_iadd hx hb dL_law_1202 ?_
  refine va_sld hx hb hXs hbl hbA hL.2.2.2.2.2 (h5 1 (by decide) (by decide)) dL_law_1203 ?_
  refine L2.aftR (va_runV (As := [.int (xs (x3 + (1 : Int32)).toNatClampNeg)]) (rest := [.int r]) ⟨hx, hb, hml, hown, hts⟩ (c_X12_judge l D kA lyr rcs rcs_in (Ac lyr rcs) (xs (x3 + (1 : Int32)).toNatClampNeg) T _) (cwV 1 hts lg_X12_judge rfl rfl rfl (by decide +kernel) ⟨(Nat.le_of_ble_eq_true rfl), (Nat.le_of_ble_eq_true rfl)⟩) ⟨k_blind, hL.recvR hK, hL.preR hK hN hw⟩ rfl rfl hl.1 rfl (lv_room (Nat.le_of_ble_eq_true rfl)) dL_law_1204 ⟨by have := hc1; show _ ≤ 600000; omega, by have := hc2; show _ ≤ 7302250; omega⟩) hL (fun r2 T H locs hw hL => ?_)
  refine lv_icmp_eq (tgt := 1595) hx hb dL_law_1207 (by decide) (fun _ => ?_) (fun hc => absurd hw.1 hc)
  refine W.widen (k := cells + 2) (n := slots + 42) (by omega) (by omega) ?_
  exact next n S T H locs ls hn hw.2 hL hl
/-- a step of views keeps the relation, and the answers are the same -/
def step_views (Rel : List Nat → St → St → Prop) : Prop := ∀ (n : List Nat) (S T : St) (a1 : Int32) (a2 : Int32) (a3 : Int32) (a4 : Int32) (a5 : Int32), (∀ c, c < 59 → c ∈ n) → Rel n S T → wp_X11_views n a1 a2 a3 a4 a5 S (fun r S1 => wp_X12_views a1 a2 a3 a4 a5 T (fun r1 T1 => r = r1 ∧ Rel n S1 T1))
set_option maxHeartbeats 4000000 in
set_option maxRecDepth 100000 in
theorem lc_views (hC : LW p s m meth c D kA adK adV lyc lyr b L xs) (hc1 : cells + 2 ≤ 600000) (hc2 : slots + 42 ≤ 7302250) (h5 : ∀ k : Int32, 1 ≤ k → k ≤ 5 → vp_in (x3 + k) L) (hstep : step_views Rel) (hn : ∀ c, c < 59 → c ∈ n) (hR : Rel n S T) (hL : L2 D kA lyc lyr n s.heap S T H locs) (hl : lv_has ls 4 [(3, .int x3), (0, .ref b), (1, .ref (lyc 0)), (2, .ref (lyr 0))])
    (next : ∀ (n1 : List Nat) (S1 T1 : St) (H1 : Heap) (locs1 : List Loc) (ls1 : Array Slot), (∀ c, c < 59 → c ∈ n1) → Rel n1 S1 T1 → L2 D kA lyc lyr n1 s.heap S1 T1 H1 locs1 → lv_has ls1 4 [(3, .int x3), (0, .ref b), (1, .ref (lyc 0)), (2, .ref (lyr 0))] → W p l e room_1 s m #[Value.ref b] below meth c H1 locs1 (cells + 2) (slots + 42) Qw (F0 m 1595 ls1 [])) : W p l e room_1 s m #[Value.ref b] below meth c H locs cells slots Qw (F0 m 1212 ls []) := by
  obtain ⟨hx, hb, hml, hown, hts, hXs, hbl, hK, hN, hXs2, hly⟩ := hC
  have hbA : ¬ (fun q : Nat => s.heap.size ≤ q) b := Nat.not_le.mpr hbl
  refine lv_aload_n hx hb dL_law_1212 rfl (lv_at hl 2 rfl) ?_
  refine lv_aload_n hx hb dL_law_1213 rfl (lv_at hl 1 rfl) ?_
  refine lv_iload_n hx hb dL_law_1214 rfl (lv_at hl 0 rfl) ?_
  refine lv_iconst (v := 1) hx hb dL_law_1215 (by decide +kernel) ?_
  refine lv_iadd hx hb dL_law_1216 ?_
  refine va_sld hx hb hXs hbl hbA hL.2.2.2.2.2 (h5 1 (by decide) (by decide)) dL_law_1217 ?_
  refine lv_aload_n hx hb dL_law_1218 rfl (lv_at hl 1 rfl) ?_
  refine lv_iload_n hx hb dL_law_1219 rfl (lv_at hl 0 rfl) ?_
  refine lv_iconst (v := 2) hx hb dL_law_1220 (by decide +kernel) ?_
  refine lv_iadd hx hb dL_law_1221 ?_
  refine va_sld hx hb hXs hbl hbA hL.2.2.2.2.2 (h5 2 (by decide) (by decide)) dL_law_1222 ?_
  refine lv_aload_n hx hb dL_law_1223 rfl (lv_at hl 1 rfl) ?_
  refine lv_iload_n hx hb dL_law_1224 rfl (lv_at hl 0 rfl) ?_
  refine lv_iconst (v := 3) hx hb dL_law_1225 (by decide +kernel) ?_
  refine lv_iadd hx hb dL_law_1226 ?_
  refine va_sld hx hb hXs hbl hbA hL.2.2.2.2.2 (h5 3 (by decide) (by decide)) dL_law_1227 ?_
  refine lv_aload_n hx hb dL_law_1228 rfl (lv_at hl 1 rfl) ?_
  refine lv_iload_n hx hb dL_law_1229 rfl (lv_at hl 0 rfl) ?_
  refine lv_iconst (v := 4) hx hb dL_law_1230 (by decide +kernel) ?_
  refine lv_iadd hx hb dL_law_1231 ?_
  refine va_sld hx hb hXs hbl hbA hL.2.2.2.2.2 (h5 4 (by decide) (by decide)) dL_law_1232 ?_
  refine lv_aload_n hx hb dL_law_1233 rfl (lv_at hl 1 rfl) ?_
  refine lv_iload_n hx hb dL_law_1234 rfl (lv_at hl 0 rfl) ?_
  refine lv_iconst (v := 5) hx hb dL_law_1235 (by decide +kernel) ?_
  refine lv_iadd hx hb dL_law_1236 ?_
  refine va_sld hx hb hXs hbl hbA hL.2.2.2.2.2 (h5 5 (by decide) (by decide)) dL_law_1237 ?_
  refine L2.aftC (va_runV (As := [.int (xs (x3 + (1 : Int32)).toNatClampNeg), .int (xs (x3 + (2 : Int32)).toNatClampNeg), .int (xs (x3 + (3 : Int32)).toNatClampNeg), .int (xs (x3 + (4 : Int32)).toNatClampNeg), .int (xs (x3 + (5 : Int32)).toNatClampNeg)]) (rest := []) ⟨hx, hb, hml, hown, hts⟩ (c_X11_views l D kA lyc n hn (Ac lyc n) (xs (x3 + (1 : Int32)).toNatClampNeg) (xs (x3 + (2 : Int32)).toNatClampNeg) (xs (x3 + (3 : Int32)).toNatClampNeg) (xs (x3 + (4 : Int32)).toNatClampNeg) (xs (x3 + (5 : Int32)).toNatClampNeg) S _) (cwV 5 hts lg_X11_views rfl rfl rfl (by decide +kernel) ⟨(Nat.le_of_ble_eq_true rfl), (Nat.le_of_ble_eq_true rfl)⟩) ⟨k_blind, hL.recvC hK hn, hL.preC hK hN (hstep n S T (xs (x3 + (1 : Int32)).toNatClampNeg) (xs (x3 + (2 : Int32)).toNatClampNeg) (xs (x3 + (3 : Int32)).toNatClampNeg) (xs (x3 + (4 : Int32)).toNatClampNeg) (xs (x3 + (5 : Int32)).toNatClampNeg) hn hR)⟩ rfl rfl hl.1 rfl (lv_room (Nat.le_of_ble_eq_true rfl)) dL_law_1238 ⟨by have := hc1; show _ ≤ 600000; omega, by have := hc2; show _ ≤ 7302250; omega⟩) hL (fun r S H locs hw hL => ?_)
  refine lv_aload_n hx hb dL_law_1241 rfl (lv_at hl 3 rfl) ?_
  refine lv_aload_n hx hb dL_law_1242 rfl (lv_at hl 1 rfl) ?_
  refine lv_iload_n hx hb dL_law_1243 rfl (lv_at hl 0 rfl) ?_
  refine lv_iconst (v := 1) hx hb dL_law_1244 (by decide +kernel) ?_
  refine lv_iadd hx hb dL_law_1245 ?_
  refine va_sld hx hb hXs hbl hbA hL.2.2.2.2.2 (h5 1 (by decide) (by decide)) dL_law_1246 ?_
  refine lv_aload_n hx hb dL_law_1247 rfl (lv_at hl 1 rfl) ?_
  refine lv_iload_n hx hb dL_law_1248 rfl (lv_at hl 0 rfl) ?_
  refine lv_iconst (v := 2) hx hb dL_law_1249 (by decide +kernel) ?_
  refine lv_iadd hx hb dL_law_1250 ?_
  refine va_sld hx hb hXs hbl hbA hL.2.2.2.2.2 (h5 2 (by decide) (by decide)) dL_law_1251 ?_
  refine lv_aload_n hx hb dL_law_1252 rfl (lv_at hl 1 rfl) ?_
  refine lv_iload_n hx hb dL_law_1253 rfl (lv_at hl 0 rfl) ?_
  refine lv_iconst (v := 3) hx hb dL_law_1254 (by decide +kernel) ?_
  refine lv_iadd hx hb dL_law_1255 ?_
  refine va_sld hx hb hXs hbl hbA hL.2.2.2.2.2 (h5 3 (by decide) (by decide)) dL_law_1256 ?_
  refine lv_aload_n hx hb dL_law_1257 rfl (lv_at hl 1 rfl) ?_
  refine lv_iload_n hx hb dL_law_1258 rfl (lv_at hl 0 rfl) ?_
  refine lv_iconst (v := 4) hx hb dL_law_1259 (by decide +kernel) ?_
  refine lv_iadd hx hb dL_law_1260 ?_
  refine va_sld hx hb hXs hbl hbA hL.2.2.2.2.2 (h5 4 (by decide) (by decide)) dL_law_1261 ?_
  refine lv_aload_n hx hb dL_law_1262 rfl (lv_at hl 1 rfl) ?_
  refine lv_iload_n hx hb dL_law_1263 rfl (lv_at hl 0 rfl) ?_
  refine lv_iconst (v := 5) hx hb dL_law_1264 (by decide +kernel) ?_
  refine lv_iadd hx hb dL_law_1265 ?_
  refine va_sld hx hb hXs hbl hbA hL.2.2.2.2.2 (h5 5 (by decide) (by decide)) dL_law_1266 ?_
  refine L2.aftR (va_runV (As := [.int (xs (x3 + (1 : Int32)).toNatClampNeg), .int (xs (x3 + (2 : Int32)).toNatClampNeg), .int (xs (x3 + (3 : Int32)).toNatClampNeg), .int (xs (x3 + (4 : Int32)).toNatClampNeg), .int (xs (x3 + (5 : Int32)).toNatClampNeg)]) (rest := [.int r]) ⟨hx, hb, hml, hown, hts⟩ (c_X12_views l D kA lyr rcs rcs_in (Ac lyr rcs) (xs (x3 + (1 : Int32)).toNatClampNeg) (xs (x3 + (2 : Int32)).toNatClampNeg) (xs (x3 + (3 : Int32)).toNatClampNeg) (xs (x3 + (4 : Int32)).toNatClampNeg) (xs (x3 + (5 : Int32)).toNatClampNeg) T _) (cwV 5 hts lg_X12_views rfl rfl rfl (by decide +kernel) ⟨(Nat.le_of_ble_eq_true rfl), (Nat.le_of_ble_eq_true rfl)⟩) ⟨k_blind, hL.recvR hK, hL.preR hK hN hw⟩ rfl rfl hl.1 rfl (lv_room (Nat.le_of_ble_eq_true rfl)) dL_law_1267 ⟨by have := hc1; show _ ≤ 600000; omega, by have := hc2; show _ ≤ 7302250; omega⟩) hL (fun r2 T H locs hw hL => ?_)
  refine lv_icmp_eq (tgt := 1595) hx hb dL_law_1270 (by decide) (fun _ => ?_) (fun hc => absurd hw.1 hc)
  refine W.widen (k := cells + 2) (n := slots + 42) (by omega) (by omega) ?_
  exact next n S T H locs ls hn hw.2 hL hl
/-- a step of sheet keeps the relation, and the answers are the same -/
def step_sheet (Rel : List Nat → St → St → Prop) : Prop := ∀ (n : List Nat) (S T : St) (a1 : Int32) (a2 : Int32) (a3 : Int32), (∀ c, c < 59 → c ∈ n) → Rel n S T → wp_X11_sheet n a1 a2 a3 S (fun n1 r S1 => wp_X12_sheet a1 a2 a3 T (fun r1 T1 => r = r1 ∧ Rel n1 S1 T1))
set_option maxHeartbeats 4000000 in
set_option maxRecDepth 100000 in
theorem lc_sheet (hC : LW p s m meth c D kA adK adV lyc lyr b L xs) (hc1 : cells + 2 ≤ 600000) (hc2 : slots + 42 ≤ 7302250) (h5 : ∀ k : Int32, 1 ≤ k → k ≤ 5 → vp_in (x3 + k) L) (hstep : step_sheet Rel) (hn : ∀ c, c < 59 → c ∈ n) (hR : Rel n S T) (hL : L2 D kA lyc lyr n s.heap S T H locs) (hl : lv_has ls 4 [(3, .int x3), (0, .ref b), (1, .ref (lyc 0)), (2, .ref (lyr 0))])
    (next : ∀ (n1 : List Nat) (S1 T1 : St) (H1 : Heap) (locs1 : List Loc) (ls1 : Array Slot), (∀ c, c < 59 → c ∈ n1) → Rel n1 S1 T1 → L2 D kA lyc lyr n1 s.heap S1 T1 H1 locs1 → lv_has ls1 4 [(3, .int x3), (0, .ref b), (1, .ref (lyc 0)), (2, .ref (lyr 0))] → W p l e room_1 s m #[Value.ref b] below meth c H1 locs1 (cells + 2) (slots + 42) Qw (F0 m 1595 ls1 [])) : W p l e room_1 s m #[Value.ref b] below meth c H locs cells slots Qw (F0 m 1275 ls []) := by
  obtain ⟨hx, hb, hml, hown, hts, hXs, hbl, hK, hN, hXs2, hly⟩ := hC
  have hbA : ¬ (fun q : Nat => s.heap.size ≤ q) b := Nat.not_le.mpr hbl
  refine lv_aload_n hx hb dL_law_1275 rfl (lv_at hl 2 rfl) ?_
  refine lv_aload_n hx hb dL_law_1276 rfl (lv_at hl 1 rfl) ?_
  refine lv_iload_n hx hb dL_law_1277 rfl (lv_at hl 0 rfl) ?_
  refine lv_iconst (v := 1) hx hb dL_law_1278 (by decide +kernel) ?_
  refine lv_iadd hx hb dL_law_1279 ?_
  refine va_sld hx hb hXs hbl hbA hL.2.2.2.2.2 (h5 1 (by decide) (by decide)) dL_law_1280 ?_
  refine lv_aload_n hx hb dL_law_1281 rfl (lv_at hl 1 rfl) ?_
  refine lv_iload_n hx hb dL_law_1282 rfl (lv_at hl 0 rfl) ?_
  refine lv_iconst (v := 2) hx hb dL_law_1283 (by decide +kernel) ?_
  refine lv_iadd hx hb dL_law_1284 ?_
  refine va_sld hx hb hXs hbl hbA hL.2.2.2.2.2 (h5 2 (by decide) (by decide)) dL_law_1285 ?_
  refine lv_aload_n hx hb dL_law_1286 rfl (lv_at hl 1 rfl) ?_
  refine lv_iload_n hx hb dL_law_1287 rfl (lv_at hl 0 rfl) ?_
  refine lv_iconst (v := 3) hx hb dL_law_1288 (by decide +kernel) ?_
  refine lv_iadd hx hb dL_law_1289 ?_
  refine va_sld hx hb hXs hbl hbA hL.2.2.2.2.2 (h5 3 (by decide) (by decide)) dL_law_1290 ?_
  refine L2.aftG (mc := 2) (ms := 42) (va_runV (As := [.int (xs (x3 + (1 : Int32)).toNatClampNeg), .int (xs (x3 + (2 : Int32)).toNatClampNeg), .int (xs (x3 + (3 : Int32)).toNatClampNeg)]) (rest := []) ⟨hx, hb, hml, hown, hts⟩ (c_X11_sheet l D kA lyc hly n hn (fun q => Ac lyc n q ∨ H.size ≤ q) (xs (x3 + (1 : Int32)).toNatClampNeg) (xs (x3 + (2 : Int32)).toNatClampNeg) (xs (x3 + (3 : Int32)).toNatClampNeg) S _) (cwV 3 hts lg_X11_sheet rfl rfl rfl (by decide +kernel) ⟨(Nat.le_of_ble_eq_true rfl), (Nat.le_of_ble_eq_true rfl)⟩) ⟨g_blind, hL.recvC hK hn, hL.preG hK hN (hstep n S T (xs (x3 + (1 : Int32)).toNatClampNeg) (xs (x3 + (2 : Int32)).toNatClampNeg) (xs (x3 + (3 : Int32)).toNatClampNeg) hn hR)⟩ rfl rfl hl.1 rfl (lv_room (Nat.le_of_ble_eq_true rfl)) dL_law_1291 ⟨by have := hc1; show _ ≤ 600000; omega, by have := hc2; show _ ≤ 7302250; omega⟩) hL (fun n r S H locs hw hsub hL => ?_)
  have hn : ∀ c, c < 59 → c ∈ n := fun c h => hsub c (hn c h)
  refine lv_aload_n hx hb dL_law_1294 rfl (lv_at hl 3 rfl) ?_
  refine lv_aload_n hx hb dL_law_1295 rfl (lv_at hl 1 rfl) ?_
  refine lv_iload_n hx hb dL_law_1296 rfl (lv_at hl 0 rfl) ?_
  refine lv_iconst (v := 1) hx hb dL_law_1297 (by decide +kernel) ?_
  refine lv_iadd hx hb dL_law_1298 ?_
  refine va_sld hx hb hXs hbl hbA hL.2.2.2.2.2 (h5 1 (by decide) (by decide)) dL_law_1299 ?_
  refine lv_aload_n hx hb dL_law_1300 rfl (lv_at hl 1 rfl) ?_
  refine lv_iload_n hx hb dL_law_1301 rfl (lv_at hl 0 rfl) ?_
  refine lv_iconst (v := 2) hx hb dL_law_1302 (by decide +kernel) ?_
  refine lv_iadd hx hb dL_law_1303 ?_
  refine va_sld hx hb hXs hbl hbA hL.2.2.2.2.2 (h5 2 (by decide) (by decide)) dL_law_1304 ?_
  refine lv_aload_n hx hb dL_law_1305 rfl (lv_at hl 1 rfl) ?_
  refine lv_iload_n hx hb dL_law_1306 rfl (lv_at hl 0 rfl) ?_
  refine lv_iconst (v := 3) hx hb dL_law_1307 (by decide +kernel) ?_
  refine lv_iadd hx hb dL_law_1308 ?_
  refine va_sld hx hb hXs hbl hbA hL.2.2.2.2.2 (h5 3 (by decide) (by decide)) dL_law_1309 ?_
  refine L2.aftR (va_runV (As := [.int (xs (x3 + (1 : Int32)).toNatClampNeg), .int (xs (x3 + (2 : Int32)).toNatClampNeg), .int (xs (x3 + (3 : Int32)).toNatClampNeg)]) (rest := [.int r]) ⟨hx, hb, hml, hown, hts⟩ (c_X12_sheet l D kA lyr rcs rcs_in (Ac lyr rcs) (xs (x3 + (1 : Int32)).toNatClampNeg) (xs (x3 + (2 : Int32)).toNatClampNeg) (xs (x3 + (3 : Int32)).toNatClampNeg) T _) (cwV 3 hts lg_X12_sheet rfl rfl rfl (by decide +kernel) ⟨(Nat.le_of_ble_eq_true rfl), (Nat.le_of_ble_eq_true rfl)⟩) ⟨k_blind, hL.recvR hK, hL.preR hK hN hw⟩ rfl rfl hl.1 rfl (lv_room (Nat.le_of_ble_eq_true rfl)) dL_law_1310 ⟨by have := hc1; show _ ≤ 600000; omega, by have := hc2; show _ ≤ 7302250; omega⟩) hL (fun r2 T H locs hw hL => ?_)
  refine lv_icmp_eq (tgt := 1595) hx hb dL_law_1313 (by decide) (fun _ => ?_) (fun hc => absurd hw.1 hc)
  refine W.widen (k := cells + 2) (n := slots + 42) (by omega) (by omega) ?_
  exact next n S T H locs ls hn hw.2 hL hl
/-- a step of put keeps the relation, and the answers are the same -/
def step_put (Rel : List Nat → St → St → Prop) : Prop := ∀ (n : List Nat) (S T : St) (a1 : Int32) (a2 : Int32) (a3 : Int32), (∀ c, c < 59 → c ∈ n) → Rel n S T → wp_X11_put n a1 a2 a3 S (fun r S1 => wp_X12_put a1 a2 a3 T (fun r1 T1 => r = r1 ∧ Rel n S1 T1))
set_option maxHeartbeats 4000000 in
set_option maxRecDepth 100000 in
theorem lc_put (hC : LW p s m meth c D kA adK adV lyc lyr b L xs) (hc1 : cells + 2 ≤ 600000) (hc2 : slots + 42 ≤ 7302250) (h5 : ∀ k : Int32, 1 ≤ k → k ≤ 5 → vp_in (x3 + k) L) (hstep : step_put Rel) (hn : ∀ c, c < 59 → c ∈ n) (hR : Rel n S T) (hL : L2 D kA lyc lyr n s.heap S T H locs) (hl : lv_has ls 4 [(3, .int x3), (0, .ref b), (1, .ref (lyc 0)), (2, .ref (lyr 0))])
    (next : ∀ (n1 : List Nat) (S1 T1 : St) (H1 : Heap) (locs1 : List Loc) (ls1 : Array Slot), (∀ c, c < 59 → c ∈ n1) → Rel n1 S1 T1 → L2 D kA lyc lyr n1 s.heap S1 T1 H1 locs1 → lv_has ls1 4 [(3, .int x3), (0, .ref b), (1, .ref (lyc 0)), (2, .ref (lyr 0))] → W p l e room_1 s m #[Value.ref b] below meth c H1 locs1 (cells + 2) (slots + 42) Qw (F0 m 1595 ls1 [])) : W p l e room_1 s m #[Value.ref b] below meth c H locs cells slots Qw (F0 m 1318 ls []) := by
  obtain ⟨hx, hb, hml, hown, hts, hXs, hbl, hK, hN, hXs2, hly⟩ := hC
  have hbA : ¬ (fun q : Nat => s.heap.size ≤ q) b := Nat.not_le.mpr hbl
  refine lv_aload_n hx hb dL_law_1318 rfl (lv_at hl 2 rfl) ?_
  refine lv_aload_n hx hb dL_law_1319 rfl (lv_at hl 1 rfl) ?_
  refine lv_iload_n hx hb dL_law_1320 rfl (lv_at hl 0 rfl) ?_
  refine lv_iconst (v := 1) hx hb dL_law_1321 (by decide +kernel) ?_
  refine lv_iadd hx hb dL_law_1322 ?_
  refine va_sld hx hb hXs hbl hbA hL.2.2.2.2.2 (h5 1 (by decide) (by decide)) dL_law_1323 ?_
  refine lv_aload_n hx hb dL_law_1324 rfl (lv_at hl 1 rfl) ?_
  refine lv_iload_n hx hb dL_law_1325 rfl (lv_at hl 0 rfl) ?_
  refine lv_iconst (v := 2) hx hb dL_law_1326 (by decide +kernel) ?_
  refine lv_iadd hx hb dL_law_1327 ?_
  refine va_sld hx hb hXs hbl hbA hL.2.2.2.2.2 (h5 2 (by decide) (by decide)) dL_law_1328 ?_
  refine lv_aload_n hx hb dL_law_1329 rfl (lv_at hl 1 rfl) ?_
  refine lv_iload_n hx hb dL_law_1330 rfl (lv_at hl 0 rfl) ?_
  refine lv_iconst (v := 3) hx hb dL_law_1331 (by decide +kernel) ?_
  refine lv_iadd hx hb dL_law_1332 ?_
  refine va_sld hx hb hXs hbl hbA hL.2.2.2.2.2 (h5 3 (by decide) (by decide)) dL_law_1333 ?_
  refine L2.aftC (va_runV (As := [.int (xs (x3 + (1 : Int32)).toNatClampNeg), .int (xs (x3 + (2 : Int32)).toNatClampNeg), .int (xs (x3 + (3 : Int32)).toNatClampNeg)]) (rest := []) ⟨hx, hb, hml, hown, hts⟩ (c_X11_put l D kA lyc n hn (Ac lyc n) (xs (x3 + (1 : Int32)).toNatClampNeg) (xs (x3 + (2 : Int32)).toNatClampNeg) (xs (x3 + (3 : Int32)).toNatClampNeg) S _) (cwV 3 hts lg_X11_put rfl rfl rfl (by decide +kernel) ⟨(Nat.le_of_ble_eq_true rfl), (Nat.le_of_ble_eq_true rfl)⟩) ⟨k_blind, hL.recvC hK hn, hL.preC hK hN (hstep n S T (xs (x3 + (1 : Int32)).toNatClampNeg) (xs (x3 + (2 : Int32)).toNatClampNeg) (xs (x3 + (3 : Int32)).toNatClampNeg) hn hR)⟩ rfl rfl hl.1 rfl (lv_room (Nat.le_of_ble_eq_true rfl)) dL_law_1334 ⟨by have := hc1; show _ ≤ 600000; omega, by have := hc2; show _ ≤ 7302250; omega⟩) hL (fun r S H locs hw hL => ?_)
  refine lv_aload_n hx hb dL_law_1337 rfl (lv_at hl 3 rfl) ?_
  refine lv_aload_n hx hb dL_law_1338 rfl (lv_at hl 1 rfl) ?_
  refine lv_iload_n hx hb dL_law_1339 rfl (lv_at hl 0 rfl) ?_
  refine lv_iconst (v := 1) hx hb dL_law_1340 (by decide +kernel) ?_
  refine lv_iadd hx hb dL_law_1341 ?_
  refine va_sld hx hb hXs hbl hbA hL.2.2.2.2.2 (h5 1 (by decide) (by decide)) dL_law_1342 ?_
  refine lv_aload_n hx hb dL_law_1343 rfl (lv_at hl 1 rfl) ?_
  refine lv_iload_n hx hb dL_law_1344 rfl (lv_at hl 0 rfl) ?_
  refine lv_iconst (v := 2) hx hb dL_law_1345 (by decide +kernel) ?_
  refine lv_iadd hx hb dL_law_1346 ?_
  refine va_sld hx hb hXs hbl hbA hL.2.2.2.2.2 (h5 2 (by decide) (by decide)) dL_law_1347 ?_
  refine lv_aload_n hx hb dL_law_1348 rfl (lv_at hl 1 rfl) ?_
  refine lv_iload_n hx hb dL_law_1349 rfl (lv_at hl 0 rfl) ?_
  refine lv_iconst (v := 3) hx hb dL_law_1350 (by decide +kernel) ?_
  refine lv_iadd hx hb dL_law_1351 ?_
  refine va_sld hx hb hXs hbl hbA hL.2.2.2.2.2 (h5 3 (by decide) (by decide)) dL_law_1352 ?_
  refine L2.aftR (va_runV (As := [.int (xs (x3 + (1 : Int32)).toNatClampNeg), .int (xs (x3 + (2 : Int32)).toNatClampNeg), .int (xs (x3 + (3 : Int32)).toNatClampNeg)]) (rest := [.int r]) ⟨hx, hb, hml, hown, hts⟩ (c_X12_put l D kA lyr rcs rcs_in (Ac lyr rcs) (xs (x3 + (1 : Int32)).toNatClampNeg) (xs (x3 + (2 : Int32)).toNatClampNeg) (xs (x3 + (3 : Int32)).toNatClampNeg) T _) (cwV 3 hts lg_X12_put rfl rfl rfl (by decide +kernel) ⟨(Nat.le_of_ble_eq_true rfl), (Nat.le_of_ble_eq_true rfl)⟩) ⟨k_blind, hL.recvR hK, hL.preR hK hN hw⟩ rfl rfl hl.1 rfl (lv_room (Nat.le_of_ble_eq_true rfl)) dL_law_1353 ⟨by have := hc1; show _ ≤ 600000; omega, by have := hc2; show _ ≤ 7302250; omega⟩) hL (fun r2 T H locs hw hL => ?_)
  refine lv_icmp_eq (tgt := 1595) hx hb dL_law_1356 (by decide) (fun _ => ?_) (fun hc => absurd hw.1 hc)
  refine W.widen (k := cells + 2) (n := slots + 42) (by omega) (by omega) ?_
  exact next n S T H locs ls hn hw.2 hL hl
/-- a step of item keeps the relation, and the answers are the same -/
def step_item (Rel : List Nat → St → St → Prop) : Prop := ∀ (n : List Nat) (S T : St) (a1 : Int32) (a2 : Int32) (a3 : Int32), (∀ c, c < 59 → c ∈ n) → Rel n S T → wp_X11_item n a1 a2 a3 S (fun r S1 => wp_X12_item a1 a2 a3 T (fun r1 T1 => r = r1 ∧ Rel n S1 T1))
set_option maxHeartbeats 4000000 in
set_option maxRecDepth 100000 in
theorem lc_item (hC : LW p s m meth c D kA adK adV lyc lyr b L xs) (hc1 : cells + 2 ≤ 600000) (hc2 : slots + 42 ≤ 7302250) (h5 : ∀ k : Int32, 1 ≤ k → k ≤ 5 → vp_in (x3 + k) L) (hstep : step_item Rel) (hn : ∀ c, c < 59 → c ∈ n) (hR : Rel n S T) (hL : L2 D kA lyc lyr n s.heap S T H locs) (hl : lv_has ls 4 [(3, .int x3), (0, .ref b), (1, .ref (lyc 0)), (2, .ref (lyr 0))])
    (next : ∀ (n1 : List Nat) (S1 T1 : St) (H1 : Heap) (locs1 : List Loc) (ls1 : Array Slot), (∀ c, c < 59 → c ∈ n1) → Rel n1 S1 T1 → L2 D kA lyc lyr n1 s.heap S1 T1 H1 locs1 → lv_has ls1 4 [(3, .int x3), (0, .ref b), (1, .ref (lyc 0)), (2, .ref (lyr 0))] → W p l e room_1 s m #[Value.ref b] below meth c H1 locs1 (cells + 2) (slots + 42) Qw (F0 m 1595 ls1 [])) : W p l e room_1 s m #[Value.ref b] below meth c H locs cells slots Qw (F0 m 1361 ls []) := by
  obtain ⟨hx, hb, hml, hown, hts, hXs, hbl, hK, hN, hXs2, hly⟩ := hC
  have hbA : ¬ (fun q : Nat => s.heap.size ≤ q) b := Nat.not_le.mpr hbl
  refine lv_aload_n hx hb dL_law_1361 rfl (lv_at hl 2 rfl) ?_
  refine lv_aload_n hx hb dL_law_1362 rfl (lv_at hl 1 rfl) ?_
  refine lv_iload_n hx hb dL_law_1363 rfl (lv_at hl 0 rfl) ?_
  refine lv_iconst (v := 1) hx hb dL_law_1364 (by decide +kernel) ?_
  refine lv_iadd hx hb dL_law_1365 ?_
  refine va_sld hx hb hXs hbl hbA hL.2.2.2.2.2 (h5 1 (by decide) (by decide)) dL_law_1366 ?_
  refine lv_aload_n hx hb dL_law_1367 rfl (lv_at hl 1 rfl) ?_
  refine lv_iload_n hx hb dL_law_1368 rfl (lv_at hl 0 rfl) ?_
  refine lv_iconst (v := 2) hx hb dL_law_1369 (by decide +kernel) ?_
  refine lv_iadd hx hb dL_law_1370 ?_
  refine va_sld hx hb hXs hbl hbA hL.2.2.2.2.2 (h5 2 (by decide) (by decide)) dL_law_1371 ?_
  refine lv_aload_n hx hb dL_law_1372 rfl (lv_at hl 1 rfl) ?_
  refine lv_iload_n hx hb dL_law_1373 rfl (lv_at hl 0 rfl) ?_
  refine lv_iconst (v := 3) hx hb dL_law_1374 (by decide +kernel) ?_
  refine lv_iadd hx hb dL_law_1375 ?_
  refine va_sld hx hb hXs hbl hbA hL.2.2.2.2.2 (h5 3 (by decide) (by decide)) dL_law_1376 ?_
  refine L2.aftC (va_runV (As := [.int (xs (x3 + (1 : Int32)).toNatClampNeg), .int (xs (x3 + (2 : Int32)).toNatClampNeg), .int (xs (x3 + (3 : Int32)).toNatClampNeg)]) (rest := []) ⟨hx, hb, hml, hown, hts⟩ (c_X11_item l D kA lyc n hn (Ac lyc n) (xs (x3 + (1 : Int32)).toNatClampNeg) (xs (x3 + (2 : Int32)).toNatClampNeg) (xs (x3 + (3 : Int32)).toNatClampNeg) S _) (cwV 3 hts lg_X11_item rfl rfl rfl (by decide +kernel) ⟨(Nat.le_of_ble_eq_true rfl), (Nat.le_of_ble_eq_true rfl)⟩) ⟨k_blind, hL.recvC hK hn, hL.preC hK hN (hstep n S T (xs (x3 + (1 : Int32)).toNatClampNeg) (xs (x3 + (2 : Int32)).toNatClampNeg) (xs (x3 + (3 : Int32)).toNatClampNeg) hn hR)⟩ rfl rfl hl.1 rfl (lv_room (Nat.le_of_ble_eq_true rfl)) dL_law_1377 ⟨by have := hc1; show _ ≤ 600000; omega, by have := hc2; show _ ≤ 7302250; omega⟩) hL (fun r S H locs hw hL => ?_)
  refine lv_aload_n hx hb dL_law_1380 rfl (lv_at hl 3 rfl) ?_
  refine lv_aload_n hx hb dL_law_1381 rfl (lv_at hl 1 rfl) ?_
  refine lv_iload_n hx hb dL_law_1382 rfl (lv_at hl 0 rfl) ?_
  refine lv_iconst (v := 1) hx hb dL_law_1383 (by decide +kernel) ?_
  refine lv_iadd hx hb dL_law_1384 ?_
  refine va_sld hx hb hXs hbl hbA hL.2.2.2.2.2 (h5 1 (by decide) (by decide)) dL_law_1385 ?_
  refine lv_aload_n hx hb dL_law_1386 rfl (lv_at hl 1 rfl) ?_
  refine lv_iload_n hx hb dL_law_1387 rfl (lv_at hl 0 rfl) ?_
  refine lv_iconst (v := 2) hx hb dL_law_1388 (by decide +kernel) ?_
  refine lv_iadd hx hb dL_law_1389 ?_
  refine va_sld hx hb hXs hbl hbA hL.2.2.2.2.2 (h5 2 (by decide) (by decide)) dL_law_1390 ?_
  refine lv_aload_n hx hb dL_law_1391 rfl (lv_at hl 1 rfl) ?_
  refine lv_iload_n hx hb dL_law_1392 rfl (lv_at hl 0 rfl) ?_
  refine lv_iconst (v := 3) hx hb dL_law_1393 (by decide +kernel) ?_
  refine lv_iadd hx hb dL_law_1394 ?_
  refine va_sld hx hb hXs hbl hbA hL.2.2.2.2.2 (h5 3 (by decide) (by decide)) dL_law_1395 ?_
  refine L2.aftR (va_runV (As := [.int (xs (x3 + (1 : Int32)).toNatClampNeg), .int (xs (x3 + (2 : Int32)).toNatClampNeg), .int (xs (x3 + (3 : Int32)).toNatClampNeg)]) (rest := [.int r]) ⟨hx, hb, hml, hown, hts⟩ (c_X12_item l D kA lyr rcs rcs_in (Ac lyr rcs) (xs (x3 + (1 : Int32)).toNatClampNeg) (xs (x3 + (2 : Int32)).toNatClampNeg) (xs (x3 + (3 : Int32)).toNatClampNeg) T _) (cwV 3 hts lg_X12_item rfl rfl rfl (by decide +kernel) ⟨(Nat.le_of_ble_eq_true rfl), (Nat.le_of_ble_eq_true rfl)⟩) ⟨k_blind, hL.recvR hK, hL.preR hK hN hw⟩ rfl rfl hl.1 rfl (lv_room (Nat.le_of_ble_eq_true rfl)) dL_law_1396 ⟨by have := hc1; show _ ≤ 600000; omega, by have := hc2; show _ ≤ 7302250; omega⟩) hL (fun r2 T H locs hw hL => ?_)
  refine lv_icmp_eq (tgt := 1595) hx hb dL_law_1399 (by decide) (fun _ => ?_) (fun hc => absurd hw.1 hc)
  refine W.widen (k := cells + 2) (n := slots + 42) (by omega) (by omega) ?_
  exact next n S T H locs ls hn hw.2 hL hl
/-- a step of shelf keeps the relation, and the answers are the same -/
def step_shelf (Rel : List Nat → St → St → Prop) : Prop := ∀ (n : List Nat) (S T : St) (a1 : Int32) (a2 : Int32) (a3 : Int32), (∀ c, c < 59 → c ∈ n) → Rel n S T → wp_X11_shelf n a1 a2 a3 S (fun r S1 => wp_X12_shelf a1 a2 a3 T (fun r1 T1 => r = r1 ∧ Rel n S1 T1))
set_option maxHeartbeats 4000000 in
set_option maxRecDepth 100000 in
theorem lc_shelf (hC : LW p s m meth c D kA adK adV lyc lyr b L xs) (hc1 : cells + 2 ≤ 600000) (hc2 : slots + 42 ≤ 7302250) (h5 : ∀ k : Int32, 1 ≤ k → k ≤ 5 → vp_in (x3 + k) L) (hstep : step_shelf Rel) (hn : ∀ c, c < 59 → c ∈ n) (hR : Rel n S T) (hL : L2 D kA lyc lyr n s.heap S T H locs) (hl : lv_has ls 4 [(3, .int x3), (0, .ref b), (1, .ref (lyc 0)), (2, .ref (lyr 0))])
    (next : ∀ (n1 : List Nat) (S1 T1 : St) (H1 : Heap) (locs1 : List Loc) (ls1 : Array Slot), (∀ c, c < 59 → c ∈ n1) → Rel n1 S1 T1 → L2 D kA lyc lyr n1 s.heap S1 T1 H1 locs1 → lv_has ls1 4 [(3, .int x3), (0, .ref b), (1, .ref (lyc 0)), (2, .ref (lyr 0))] → W p l e room_1 s m #[Value.ref b] below meth c H1 locs1 (cells + 2) (slots + 42) Qw (F0 m 1595 ls1 [])) : W p l e room_1 s m #[Value.ref b] below meth c H locs cells slots Qw (F0 m 1404 ls []) := by
  obtain ⟨hx, hb, hml, hown, hts, hXs, hbl, hK, hN, hXs2, hly⟩ := hC
  have hbA : ¬ (fun q : Nat => s.heap.size ≤ q) b := Nat.not_le.mpr hbl
  refine lv_aload_n hx hb dL_law_1404 rfl (lv_at hl 2 rfl) ?_
  refine lv_aload_n hx hb dL_law_1405 rfl (lv_at hl 1 rfl) ?_
  refine lv_iload_n hx hb dL_law_1406 rfl (lv_at hl 0 rfl) ?_
  refine lv_iconst (v := 1) hx hb dL_law_1407 (by decide +kernel) ?_
  refine lv_iadd hx hb dL_law_1408 ?_
  refine va_sld hx hb hXs hbl hbA hL.2.2.2.2.2 (h5 1 (by decide) (by decide)) dL_law_1409 ?_
  refine lv_aload_n hx hb dL_law_1410 rfl (lv_at hl 1 rfl) ?_
  refine lv_iload_n hx hb dL_law_1411 rfl (lv_at hl 0 rfl) ?_
  refine lv_iconst (v := 2) hx hb dL_law_1412 (by decide +kernel) ?_
  refine lv_iadd hx hb dL_law_1413 ?_
  refine va_sld hx hb hXs hbl hbA hL.2.2.2.2.2 (h5 2 (by decide) (by decide)) dL_law_1414 ?_
  refine lv_aload_n hx hb dL_law_1415 rfl (lv_at hl 1 rfl) ?_
  refine lv_iload_n hx hb dL_law_1416 rfl (lv_at hl 0 rfl) ?_
  refine lv_iconst (v := 3) hx hb dL_law_1417 (by decide +kernel) ?_
  refine lv_iadd hx hb dL_law_1418 ?_
  refine va_sld hx hb hXs hbl hbA hL.2.2.2.2.2 (h5 3 (by decide) (by decide)) dL_law_1419 ?_
  refine L2.aftC (va_runV (As := [.int (xs (x3 + (1 : Int32)).toNatClampNeg), .int (xs (x3 + (2 : Int32)).toNatClampNeg), .int (xs (x3 + (3 : Int32)).toNatClampNeg)]) (rest := []) ⟨hx, hb, hml, hown, hts⟩ (c_X11_shelf l D kA lyc n hn (Ac lyc n) (xs (x3 + (1 : Int32)).toNatClampNeg) (xs (x3 + (2 : Int32)).toNatClampNeg) (xs (x3 + (3 : Int32)).toNatClampNeg) S _) (cwV 3 hts lg_X11_shelf rfl rfl rfl (by decide +kernel) ⟨(Nat.le_of_ble_eq_true rfl), (Nat.le_of_ble_eq_true rfl)⟩) ⟨k_blind, hL.recvC hK hn, hL.preC hK hN (hstep n S T (xs (x3 + (1 : Int32)).toNatClampNeg) (xs (x3 + (2 : Int32)).toNatClampNeg) (xs (x3 + (3 : Int32)).toNatClampNeg) hn hR)⟩ rfl rfl hl.1 rfl (lv_room (Nat.le_of_ble_eq_true rfl)) dL_law_1420 ⟨by have := hc1; show _ ≤ 600000; omega, by have := hc2; show _ ≤ 7302250; omega⟩) hL (fun r S H locs hw hL => ?_)
  refine lv_aload_n hx hb dL_law_1423 rfl (lv_at hl 3 rfl) ?_
  refine lv_aload_n hx hb dL_law_1424 rfl (lv_at hl 1 rfl) ?_
  refine lv_iload_n hx hb dL_law_1425 rfl (lv_at hl 0 rfl) ?_
  refine lv_iconst (v := 1) hx hb dL_law_1426 (by decide +kernel) ?_
  refine lv_iadd hx hb dL_law_1427 ?_
  refine va_sld hx hb hXs hbl hbA hL.2.2.2.2.2 (h5 1 (by decide) (by decide)) dL_law_1428 ?_
  refine lv_aload_n hx hb dL_law_1429 rfl (lv_at hl 1 rfl) ?_
  refine lv_iload_n hx hb dL_law_1430 rfl (lv_at hl 0 rfl) ?_
  refine lv_iconst (v := 2) hx hb dL_law_1431 (by decide +kernel) ?_
  refine lv_iadd hx hb dL_law_1432 ?_
  refine va_sld hx hb hXs hbl hbA hL.2.2.2.2.2 (h5 2 (by decide) (by decide)) dL_law_1433 ?_
  refine lv_aload_n hx hb dL_law_1434 rfl (lv_at hl 1 rfl) ?_
  refine lv_iload_n hx hb dL_law_1435 rfl (lv_at hl 0 rfl) ?_
  refine lv_iconst (v := 3) hx hb dL_law_1436 (by decide +kernel) ?_
  refine lv_iadd hx hb dL_law_1437 ?_
  refine va_sld hx hb hXs hbl hbA hL.2.2.2.2.2 (h5 3 (by decide) (by decide)) dL_law_1438 ?_
  refine L2.aftR (va_runV (As := [.int (xs (x3 + (1 : Int32)).toNatClampNeg), .int (xs (x3 + (2 : Int32)).toNatClampNeg), .int (xs (x3 + (3 : Int32)).toNatClampNeg)]) (rest := [.int r]) ⟨hx, hb, hml, hown, hts⟩ (c_X12_shelf l D kA lyr rcs rcs_in (Ac lyr rcs) (xs (x3 + (1 : Int32)).toNatClampNeg) (xs (x3 + (2 : Int32)).toNatClampNeg) (xs (x3 + (3 : Int32)).toNatClampNeg) T _) (cwV 3 hts lg_X12_shelf rfl rfl rfl (by decide +kernel) ⟨(Nat.le_of_ble_eq_true rfl), (Nat.le_of_ble_eq_true rfl)⟩) ⟨k_blind, hL.recvR hK, hL.preR hK hN hw⟩ rfl rfl hl.1 rfl (lv_room (Nat.le_of_ble_eq_true rfl)) dL_law_1439 ⟨by have := hc1; show _ ≤ 600000; omega, by have := hc2; show _ ≤ 7302250; omega⟩) hL (fun r2 T H locs hw hL => ?_)
  refine lv_icmp_eq (tgt := 1595) hx hb dL_law_1442 (by decide) (fun _ => ?_) (fun hc => absurd hw.1 hc)
  refine W.widen (k := cells + 2) (n := slots + 42) (by omega) (by omega) ?_
  exact next n S T H locs ls hn hw.2 hL hl
/-- a step of taken keeps the relation, and the answers are the same -/
def step_taken (Rel : List Nat → St → St → Prop) : Prop := ∀ (n : List Nat) (S T : St) (a1 : Int32) (a2 : Int32), (∀ c, c < 59 → c ∈ n) → Rel n S T → wp_X11_taken n a1 a2 S (fun r S1 => wp_X12_taken a1 a2 T (fun r1 T1 => r = r1 ∧ Rel n S1 T1))
set_option maxHeartbeats 4000000 in
set_option maxRecDepth 100000 in
theorem lc_taken (hC : LW p s m meth c D kA adK adV lyc lyr b L xs) (hc1 : cells + 2 ≤ 600000) (hc2 : slots + 42 ≤ 7302250) (h5 : ∀ k : Int32, 1 ≤ k → k ≤ 5 → vp_in (x3 + k) L) (hstep : step_taken Rel) (hn : ∀ c, c < 59 → c ∈ n) (hR : Rel n S T) (hL : L2 D kA lyc lyr n s.heap S T H locs) (hl : lv_has ls 4 [(3, .int x3), (0, .ref b), (1, .ref (lyc 0)), (2, .ref (lyr 0))])
    (next : ∀ (n1 : List Nat) (S1 T1 : St) (H1 : Heap) (locs1 : List Loc) (ls1 : Array Slot), (∀ c, c < 59 → c ∈ n1) → Rel n1 S1 T1 → L2 D kA lyc lyr n1 s.heap S1 T1 H1 locs1 → lv_has ls1 4 [(3, .int x3), (0, .ref b), (1, .ref (lyc 0)), (2, .ref (lyr 0))] → W p l e room_1 s m #[Value.ref b] below meth c H1 locs1 (cells + 2) (slots + 42) Qw (F0 m 1595 ls1 [])) : W p l e room_1 s m #[Value.ref b] below meth c H locs cells slots Qw (F0 m 1447 ls []) := by
  obtain ⟨hx, hb, hml, hown, hts, hXs, hbl, hK, hN, hXs2, hly⟩ := hC
  have hbA : ¬ (fun q : Nat => s.heap.size ≤ q) b := Nat.not_le.mpr hbl
  refine lv_aload_n hx hb dL_law_1447 rfl (lv_at hl 2 rfl) ?_
  refine lv_aload_n hx hb dL_law_1448 rfl (lv_at hl 1 rfl) ?_
  refine lv_iload_n hx hb dL_law_1449 rfl (lv_at hl 0 rfl) ?_
  refine lv_iconst (v := 1) hx hb dL_law_1450 (by decide +kernel) ?_
  refine lv_iadd hx hb dL_law_1451 ?_
  refine va_sld hx hb hXs hbl hbA hL.2.2.2.2.2 (h5 1 (by decide) (by decide)) dL_law_1452 ?_
  refine lv_aload_n hx hb dL_law_1453 rfl (lv_at hl 1 rfl) ?_
  refine lv_iload_n hx hb dL_law_1454 rfl (lv_at hl 0 rfl) ?_
  refine lv_iconst (v := 2) hx hb dL_law_1455 (by decide +kernel) ?_
  refine lv_iadd hx hb dL_law_1456 ?_
  refine va_sld hx hb hXs hbl hbA hL.2.2.2.2.2 (h5 2 (by decide) (by decide)) dL_law_1457 ?_
  refine L2.aftC (va_runV (As := [.int (xs (x3 + (1 : Int32)).toNatClampNeg), .int (xs (x3 + (2 : Int32)).toNatClampNeg)]) (rest := []) ⟨hx, hb, hml, hown, hts⟩ (c_X11_taken l D kA lyc n hn (Ac lyc n) (xs (x3 + (1 : Int32)).toNatClampNeg) (xs (x3 + (2 : Int32)).toNatClampNeg) S _) (cwV 2 hts lg_X11_taken rfl rfl rfl (by decide +kernel) ⟨(Nat.le_of_ble_eq_true rfl), (Nat.le_of_ble_eq_true rfl)⟩) ⟨k_blind, hL.recvC hK hn, hL.preC hK hN (hstep n S T (xs (x3 + (1 : Int32)).toNatClampNeg) (xs (x3 + (2 : Int32)).toNatClampNeg) hn hR)⟩ rfl rfl hl.1 rfl (lv_room (Nat.le_of_ble_eq_true rfl)) dL_law_1458 ⟨by have := hc1; show _ ≤ 600000; omega, by have := hc2; show _ ≤ 7302250; omega⟩) hL (fun r S H locs hw hL => ?_)
  refine lv_aload_n hx hb dL_law_1461 rfl (lv_at hl 3 rfl) ?_
  refine lv_aload_n hx hb dL_law_1462 rfl (lv_at hl 1 rfl) ?_
  refine lv_iload_n hx hb dL_law_1463 rfl (lv_at hl 0 rfl) ?_
  refine lv_iconst (v := 1) hx hb dL_law_1464 (by decide +kernel) ?_
  refine lv_iadd hx hb dL_law_1465 ?_
  refine va_sld hx hb hXs hbl hbA hL.2.2.2.2.2 (h5 1 (by decide) (by decide)) dL_law_1466 ?_
  refine lv_aload_n hx hb dL_law_1467 rfl (lv_at hl 1 rfl) ?_
  refine lv_iload_n hx hb dL_law_1468 rfl (lv_at hl 0 rfl) ?_
  refine lv_iconst (v := 2) hx hb dL_law_1469 (by decide +kernel) ?_
  refine lv_iadd hx hb dL_law_1470 ?_
  refine va_sld hx hb hXs hbl hbA hL.2.2.2.2.2 (h5 2 (by decide) (by decide)) dL_law_1471 ?_
  refine L2.aftR (va_runV (As := [.int (xs (x3 + (1 : Int32)).toNatClampNeg), .int (xs (x3 + (2 : Int32)).toNatClampNeg)]) (rest := [.int r]) ⟨hx, hb, hml, hown, hts⟩ (c_X12_taken l D kA lyr rcs rcs_in (Ac lyr rcs) (xs (x3 + (1 : Int32)).toNatClampNeg) (xs (x3 + (2 : Int32)).toNatClampNeg) T _) (cwV 2 hts lg_X12_taken rfl rfl rfl (by decide +kernel) ⟨(Nat.le_of_ble_eq_true rfl), (Nat.le_of_ble_eq_true rfl)⟩) ⟨k_blind, hL.recvR hK, hL.preR hK hN hw⟩ rfl rfl hl.1 rfl (lv_room (Nat.le_of_ble_eq_true rfl)) dL_law_1472 ⟨by have := hc1; show _ ≤ 600000; omega, by have := hc2; show _ ≤ 7302250; omega⟩) hL (fun r2 T H locs hw hL => ?_)
  refine lv_icmp_eq (tgt := 1595) hx hb dL_law_1475 (by decide) (fun _ => ?_) (fun hc => absurd hw.1 hc)
  refine W.widen (k := cells + 2) (n := slots + 42) (by omega) (by omega) ?_
  exact next n S T H locs ls hn hw.2 hL hl
/-- a step of act keeps the relation, and the answers are the same -/
def step_act (Rel : List Nat → St → St → Prop) : Prop := ∀ (n : List Nat) (S T : St) (a1 : Int32) (a2 : Int32) (a3 : Int32), (∀ c, c < 59 → c ∈ n) → Rel n S T → wp_X11_act n a1 a2 a3 S (fun n1 r S1 => wp_X12_act a1 a2 a3 T (fun r1 T1 => r = r1 ∧ Rel n1 S1 T1))
set_option maxHeartbeats 4000000 in
set_option maxRecDepth 100000 in
theorem lc_act (hC : LW p s m meth c D kA adK adV lyc lyr b L xs) (hc1 : cells + 2 ≤ 600000) (hc2 : slots + 42 ≤ 7302250) (h5 : ∀ k : Int32, 1 ≤ k → k ≤ 5 → vp_in (x3 + k) L) (hstep : step_act Rel) (hn : ∀ c, c < 59 → c ∈ n) (hR : Rel n S T) (hL : L2 D kA lyc lyr n s.heap S T H locs) (hl : lv_has ls 4 [(3, .int x3), (0, .ref b), (1, .ref (lyc 0)), (2, .ref (lyr 0))])
    (next : ∀ (n1 : List Nat) (S1 T1 : St) (H1 : Heap) (locs1 : List Loc) (ls1 : Array Slot), (∀ c, c < 59 → c ∈ n1) → Rel n1 S1 T1 → L2 D kA lyc lyr n1 s.heap S1 T1 H1 locs1 → lv_has ls1 4 [(3, .int x3), (0, .ref b), (1, .ref (lyc 0)), (2, .ref (lyr 0))] → W p l e room_1 s m #[Value.ref b] below meth c H1 locs1 (cells + 2) (slots + 42) Qw (F0 m 1595 ls1 [])) : W p l e room_1 s m #[Value.ref b] below meth c H locs cells slots Qw (F0 m 1480 ls []) := by
  obtain ⟨hx, hb, hml, hown, hts, hXs, hbl, hK, hN, hXs2, hly⟩ := hC
  have hbA : ¬ (fun q : Nat => s.heap.size ≤ q) b := Nat.not_le.mpr hbl
  refine lv_aload_n hx hb dL_law_1480 rfl (lv_at hl 2 rfl) ?_
  refine lv_aload_n hx hb dL_law_1481 rfl (lv_at hl 1 rfl) ?_
  refine lv_iload_n hx hb dL_law_1482 rfl (lv_at hl 0 rfl) ?_
  refine lv_iconst (v := 1) hx hb dL_law_1483 (by decide +kernel) ?_
  refine lv_iadd hx hb dL_law_1484 ?_
  refine va_sld hx hb hXs hbl hbA hL.2.2.2.2.2 (h5 1 (by decide) (by decide)) dL_law_1485 ?_
  refine lv_aload_n hx hb dL_law_1486 rfl (lv_at hl 1 rfl) ?_
  refine lv_iload_n hx hb dL_law_1487 rfl (lv_at hl 0 rfl) ?_
  refine lv_iconst (v := 2) hx hb dL_law_1488 (by decide +kernel) ?_
  refine lv_iadd hx hb dL_law_1489 ?_
  refine va_sld hx hb hXs hbl hbA hL.2.2.2.2.2 (h5 2 (by decide) (by decide)) dL_law_1490 ?_
  refine lv_aload_n hx hb dL_law_1491 rfl (lv_at hl 1 rfl) ?_
  refine lv_iload_n hx hb dL_law_1492 rfl (lv_at hl 0 rfl) ?_
  refine lv_iconst (v := 3) hx hb dL_law_1493 (by decide +kernel) ?_
  refine lv_iadd hx hb dL_law_1494 ?_
  refine va_sld hx hb hXs hbl hbA hL.2.2.2.2.2 (h5 3 (by decide) (by decide)) dL_law_1495 ?_
  refine L2.aftG (mc := 1) (ms := 3) (va_runV (As := [.int (xs (x3 + (1 : Int32)).toNatClampNeg), .int (xs (x3 + (2 : Int32)).toNatClampNeg), .int (xs (x3 + (3 : Int32)).toNatClampNeg)]) (rest := []) ⟨hx, hb, hml, hown, hts⟩ (c_X11_act l D kA lyc hly n hn (fun q => Ac lyc n q ∨ H.size ≤ q) (xs (x3 + (1 : Int32)).toNatClampNeg) (xs (x3 + (2 : Int32)).toNatClampNeg) (xs (x3 + (3 : Int32)).toNatClampNeg) S _) (cwV 3 hts gz_act rfl rfl rfl (by decide +kernel) ⟨(Nat.le_of_ble_eq_true rfl), (Nat.le_of_ble_eq_true rfl)⟩) ⟨g_blind, hL.recvC hK hn, hL.preG hK hN (hstep n S T (xs (x3 + (1 : Int32)).toNatClampNeg) (xs (x3 + (2 : Int32)).toNatClampNeg) (xs (x3 + (3 : Int32)).toNatClampNeg) hn hR)⟩ rfl rfl hl.1 rfl (lv_room (Nat.le_of_ble_eq_true rfl)) dL_law_1496 ⟨by have := hc1; show _ ≤ 600000; omega, by have := hc2; show _ ≤ 7302250; omega⟩) hL (fun n r S H locs hw hsub hL => ?_)
  have hn : ∀ c, c < 59 → c ∈ n := fun c h => hsub c (hn c h)
  refine lv_aload_n hx hb dL_law_1499 rfl (lv_at hl 3 rfl) ?_
  refine lv_aload_n hx hb dL_law_1500 rfl (lv_at hl 1 rfl) ?_
  refine lv_iload_n hx hb dL_law_1501 rfl (lv_at hl 0 rfl) ?_
  refine lv_iconst (v := 1) hx hb dL_law_1502 (by decide +kernel) ?_
  refine lv_iadd hx hb dL_law_1503 ?_
  refine va_sld hx hb hXs hbl hbA hL.2.2.2.2.2 (h5 1 (by decide) (by decide)) dL_law_1504 ?_
  refine lv_aload_n hx hb dL_law_1505 rfl (lv_at hl 1 rfl) ?_
  refine lv_iload_n hx hb dL_law_1506 rfl (lv_at hl 0 rfl) ?_
  refine lv_iconst (v := 2) hx hb dL_law_1507 (by decide +kernel) ?_
  refine lv_iadd hx hb dL_law_1508 ?_
  refine va_sld hx hb hXs hbl hbA hL.2.2.2.2.2 (h5 2 (by decide) (by decide)) dL_law_1509 ?_
  refine lv_aload_n hx hb dL_law_1510 rfl (lv_at hl 1 rfl) ?_
  refine lv_iload_n hx hb dL_law_1511 rfl (lv_at hl 0 rfl) ?_
  refine lv_iconst (v := 3) hx hb dL_law_1512 (by decide +kernel) ?_
  refine lv_iadd hx hb dL_law_1513 ?_
  refine va_sld hx hb hXs hbl hbA hL.2.2.2.2.2 (h5 3 (by decide) (by decide)) dL_law_1514 ?_
  refine L2.aftR (va_runV (As := [.int (xs (x3 + (1 : Int32)).toNatClampNeg), .int (xs (x3 + (2 : Int32)).toNatClampNeg), .int (xs (x3 + (3 : Int32)).toNatClampNeg)]) (rest := [.int r]) ⟨hx, hb, hml, hown, hts⟩ (c_X12_act l D kA lyr rcs rcs_in (Ac lyr rcs) (xs (x3 + (1 : Int32)).toNatClampNeg) (xs (x3 + (2 : Int32)).toNatClampNeg) (xs (x3 + (3 : Int32)).toNatClampNeg) T _) (cwV 3 hts lg_X12_act rfl rfl rfl (by decide +kernel) ⟨(Nat.le_of_ble_eq_true rfl), (Nat.le_of_ble_eq_true rfl)⟩) ⟨k_blind, hL.recvR hK, hL.preR hK hN hw⟩ rfl rfl hl.1 rfl (lv_room (Nat.le_of_ble_eq_true rfl)) dL_law_1515 ⟨by have := hc1; show _ ≤ 600000; omega, by have := hc2; show _ ≤ 7302250; omega⟩) hL (fun r2 T H locs hw hL => ?_)
  refine lv_icmp_eq (tgt := 1595) hx hb dL_law_1518 (by decide) (fun _ => ?_) (fun hc => absurd hw.1 hc)
  refine W.widen (k := cells + 2) (n := slots + 42) (by omega) (by omega) ?_
  exact next n S T H locs ls hn hw.2 hL hl
/-- a step of trace keeps the relation, and the answers are the same -/
def step_trace (Rel : List Nat → St → St → Prop) : Prop := ∀ (n : List Nat) (S T : St) (a1 : Int32), (∀ c, c < 59 → c ∈ n) → Rel n S T → wp_X11_trace a1 S (fun r S1 => wp_X12_trace a1 T (fun r1 T1 => r = r1 ∧ Rel n S1 T1))
set_option maxHeartbeats 4000000 in
set_option maxRecDepth 100000 in
theorem lc_trace (hC : LW p s m meth c D kA adK adV lyc lyr b L xs) (hc1 : cells + 2 ≤ 600000) (hc2 : slots + 42 ≤ 7302250) (h5 : ∀ k : Int32, 1 ≤ k → k ≤ 5 → vp_in (x3 + k) L) (hstep : step_trace Rel) (hn : ∀ c, c < 59 → c ∈ n) (hR : Rel n S T) (hL : L2 D kA lyc lyr n s.heap S T H locs) (hl : lv_has ls 4 [(3, .int x3), (0, .ref b), (1, .ref (lyc 0)), (2, .ref (lyr 0))])
    (next : ∀ (n1 : List Nat) (S1 T1 : St) (H1 : Heap) (locs1 : List Loc) (ls1 : Array Slot), (∀ c, c < 59 → c ∈ n1) → Rel n1 S1 T1 → L2 D kA lyc lyr n1 s.heap S1 T1 H1 locs1 → lv_has ls1 4 [(3, .int x3), (0, .ref b), (1, .ref (lyc 0)), (2, .ref (lyr 0))] → W p l e room_1 s m #[Value.ref b] below meth c H1 locs1 (cells + 2) (slots + 42) Qw (F0 m 1595 ls1 [])) : W p l e room_1 s m #[Value.ref b] below meth c H locs cells slots Qw (F0 m 1523 ls []) := by
  obtain ⟨hx, hb, hml, hown, hts, hXs, hbl, hK, hN, hXs2, hly⟩ := hC
  have hbA : ¬ (fun q : Nat => s.heap.size ≤ q) b := Nat.not_le.mpr hbl
  refine lv_aload_n hx hb dL_law_1523 rfl (lv_at hl 2 rfl) ?_
  refine lv_aload_n hx hb dL_law_1524 rfl (lv_at hl 1 rfl) ?_
  refine lv_iload_n hx hb dL_law_1525 rfl (lv_at hl 0 rfl) ?_
  refine lv_iconst (v := 1) hx hb dL_law_1526 (by decide +kernel) ?_
  refine lv_iadd hx hb dL_law_1527 ?_
  refine va_sld hx hb hXs hbl hbA hL.2.2.2.2.2 (h5 1 (by decide) (by decide)) dL_law_1528 ?_
  refine L2.aftC (va_runV (As := [.int (xs (x3 + (1 : Int32)).toNatClampNeg)]) (rest := []) ⟨hx, hb, hml, hown, hts⟩ (c_X11_trace l D kA lyc n hn (Ac lyc n) (xs (x3 + (1 : Int32)).toNatClampNeg) S _) (cwV 1 hts lg_X11_trace rfl rfl rfl (by decide +kernel) ⟨(Nat.le_of_ble_eq_true rfl), (Nat.le_of_ble_eq_true rfl)⟩) ⟨k_blind, hL.recvC hK hn, hL.preC hK hN (hstep n S T (xs (x3 + (1 : Int32)).toNatClampNeg) hn hR)⟩ rfl rfl hl.1 rfl (lv_room (Nat.le_of_ble_eq_true rfl)) dL_law_1529 ⟨by have := hc1; show _ ≤ 600000; omega, by have := hc2; show _ ≤ 7302250; omega⟩) hL (fun r S H locs hw hL => ?_)
  refine lv_aload_n hx hb dL_law_1532 rfl (lv_at hl 3 rfl) ?_
  refine lv_aload_n hx hb dL_law_1533 rfl (lv_at hl 1 rfl) ?_
  refine lv_iload_n hx hb dL_law_1534 rfl (lv_at hl 0 rfl) ?_
  refine lv_iconst (v := 1) hx hb dL_law_1535 (by decide +kernel) ?_
  refine lv_iadd hx hb dL_law_1536 ?_
  refine va_sld hx hb hXs hbl hbA hL.2.2.2.2.2 (h5 1 (by decide) (by decide)) dL_law_1537 ?_
  refine L2.aftR (va_runV (As := [.int (xs (x3 + (1 : Int32)).toNatClampNeg)]) (rest := [.int r]) ⟨hx, hb, hml, hown, hts⟩ (c_X12_trace l D kA lyr rcs rcs_in (Ac lyr rcs) (xs (x3 + (1 : Int32)).toNatClampNeg) T _) (cwV 1 hts lg_X12_trace rfl rfl rfl (by decide +kernel) ⟨(Nat.le_of_ble_eq_true rfl), (Nat.le_of_ble_eq_true rfl)⟩) ⟨k_blind, hL.recvR hK, hL.preR hK hN hw⟩ rfl rfl hl.1 rfl (lv_room (Nat.le_of_ble_eq_true rfl)) dL_law_1538 ⟨by have := hc1; show _ ≤ 600000; omega, by have := hc2; show _ ≤ 7302250; omega⟩) hL (fun r2 T H locs hw hL => ?_)
  refine lv_icmp_eq (tgt := 1595) hx hb dL_law_1541 (by decide) (fun _ => ?_) (fun hc => absurd hw.1 hc)
  refine W.widen (k := cells + 2) (n := slots + 42) (by omega) (by omega) ?_
  exact next n S T H locs ls hn hw.2 hL hl
/-- a step of many keeps the relation, and the answers are the same -/
def step_many (Rel : List Nat → St → St → Prop) : Prop := ∀ (n : List Nat) (S T : St) (a1 : Int32), (∀ c, c < 59 → c ∈ n) → Rel n S T → wp_X11_many a1 S (fun r S1 => wp_X12_many a1 T (fun r1 T1 => r = r1 ∧ Rel n S1 T1))
set_option maxHeartbeats 4000000 in
set_option maxRecDepth 100000 in
theorem lc_many (hC : LW p s m meth c D kA adK adV lyc lyr b L xs) (hc1 : cells + 2 ≤ 600000) (hc2 : slots + 42 ≤ 7302250) (h5 : ∀ k : Int32, 1 ≤ k → k ≤ 5 → vp_in (x3 + k) L) (hstep : step_many Rel) (hn : ∀ c, c < 59 → c ∈ n) (hR : Rel n S T) (hL : L2 D kA lyc lyr n s.heap S T H locs) (hl : lv_has ls 4 [(3, .int x3), (0, .ref b), (1, .ref (lyc 0)), (2, .ref (lyr 0))])
    (next : ∀ (n1 : List Nat) (S1 T1 : St) (H1 : Heap) (locs1 : List Loc) (ls1 : Array Slot), (∀ c, c < 59 → c ∈ n1) → Rel n1 S1 T1 → L2 D kA lyc lyr n1 s.heap S1 T1 H1 locs1 → lv_has ls1 4 [(3, .int x3), (0, .ref b), (1, .ref (lyc 0)), (2, .ref (lyr 0))] → W p l e room_1 s m #[Value.ref b] below meth c H1 locs1 (cells + 2) (slots + 42) Qw (F0 m 1595 ls1 [])) : W p l e room_1 s m #[Value.ref b] below meth c H locs cells slots Qw (F0 m 1546 ls []) := by
  obtain ⟨hx, hb, hml, hown, hts, hXs, hbl, hK, hN, hXs2, hly⟩ := hC
  have hbA : ¬ (fun q : Nat => s.heap.size ≤ q) b := Nat.not_le.mpr hbl
  refine lv_aload_n hx hb dL_law_1546 rfl (lv_at hl 2 rfl) ?_
  refine lv_aload_n hx hb dL_law_1547 rfl (lv_at hl 1 rfl) ?_
  refine lv_iload_n hx hb dL_law_1548 rfl (lv_at hl 0 rfl) ?_
  refine lv_iconst (v := 1) hx hb dL_law_1549 (by decide +kernel) ?_
  refine lv_iadd hx hb dL_law_1550 ?_
  refine va_sld hx hb hXs hbl hbA hL.2.2.2.2.2 (h5 1 (by decide) (by decide)) dL_law_1551 ?_
  refine L2.aftC (va_runV (As := [.int (xs (x3 + (1 : Int32)).toNatClampNeg)]) (rest := []) ⟨hx, hb, hml, hown, hts⟩ (c_X11_many l D kA lyc n hn (Ac lyc n) (xs (x3 + (1 : Int32)).toNatClampNeg) S _) (cwV 1 hts lg_X11_many rfl rfl rfl (by decide +kernel) ⟨(Nat.le_of_ble_eq_true rfl), (Nat.le_of_ble_eq_true rfl)⟩) ⟨k_blind, hL.recvC hK hn, hL.preC hK hN (hstep n S T (xs (x3 + (1 : Int32)).toNatClampNeg) hn hR)⟩ rfl rfl hl.1 rfl (lv_room (Nat.le_of_ble_eq_true rfl)) dL_law_1552 ⟨by have := hc1; show _ ≤ 600000; omega, by have := hc2; show _ ≤ 7302250; omega⟩) hL (fun r S H locs hw hL => ?_)
  refine lv_aload_n hx hb dL_law_1555 rfl (lv_at hl 3 rfl) ?_
  refine lv_aload_n hx hb dL_law_1556 rfl (lv_at hl 1 rfl) ?_
  refine lv_iload_n hx hb dL_law_1557 rfl (lv_at hl 0 rfl) ?_
  refine lv_iconst (v := 1) hx hb dL_law_1558 (by decide +kernel) ?_
  refine lv_iadd hx hb dL_law_1559 ?_
  refine va_sld hx hb hXs hbl hbA hL.2.2.2.2.2 (h5 1 (by decide) (by decide)) dL_law_1560 ?_
  refine L2.aftR (va_runV (As := [.int (xs (x3 + (1 : Int32)).toNatClampNeg)]) (rest := [.int r]) ⟨hx, hb, hml, hown, hts⟩ (c_X12_many l D kA lyr rcs rcs_in (Ac lyr rcs) (xs (x3 + (1 : Int32)).toNatClampNeg) T _) (cwV 1 hts lg_X12_many rfl rfl rfl (by decide +kernel) ⟨(Nat.le_of_ble_eq_true rfl), (Nat.le_of_ble_eq_true rfl)⟩) ⟨k_blind, hL.recvR hK, hL.preR hK hN hw⟩ rfl rfl hl.1 rfl (lv_room (Nat.le_of_ble_eq_true rfl)) dL_law_1561 ⟨by have := hc1; show _ ≤ 600000; omega, by have := hc2; show _ ≤ 7302250; omega⟩) hL (fun r2 T H locs hw hL => ?_)
  refine lv_icmp_eq (tgt := 1595) hx hb dL_law_1564 (by decide) (fun _ => ?_) (fun hc => absurd hw.1 hc)
  refine W.widen (k := cells + 2) (n := slots + 42) (by omega) (by omega) ?_
  exact next n S T H locs ls hn hw.2 hL hl
/-- a step of keep keeps the relation, and the answers are the same -/
def step_keep (Rel : List Nat → St → St → Prop) : Prop := ∀ (n : List Nat) (S T : St), (∀ c, c < 59 → c ∈ n) → Rel n S T → wp_X11_keep S (fun r S1 => wp_X12_keep T (fun r1 T1 => r = r1 ∧ Rel n S1 T1))
set_option maxHeartbeats 4000000 in
set_option maxRecDepth 100000 in
theorem lc_keep (hC : LW p s m meth c D kA adK adV lyc lyr b L xs) (hc1 : cells + 2 ≤ 600000) (hc2 : slots + 42 ≤ 7302250) (h5 : ∀ k : Int32, 1 ≤ k → k ≤ 5 → vp_in (x3 + k) L) (hstep : step_keep Rel) (hn : ∀ c, c < 59 → c ∈ n) (hR : Rel n S T) (hL : L2 D kA lyc lyr n s.heap S T H locs) (hl : lv_has ls 4 [(3, .int x3), (0, .ref b), (1, .ref (lyc 0)), (2, .ref (lyr 0))])
    (next : ∀ (n1 : List Nat) (S1 T1 : St) (H1 : Heap) (locs1 : List Loc) (ls1 : Array Slot), (∀ c, c < 59 → c ∈ n1) → Rel n1 S1 T1 → L2 D kA lyc lyr n1 s.heap S1 T1 H1 locs1 → lv_has ls1 4 [(3, .int x3), (0, .ref b), (1, .ref (lyc 0)), (2, .ref (lyr 0))] → W p l e room_1 s m #[Value.ref b] below meth c H1 locs1 (cells + 2) (slots + 42) Qw (F0 m 1595 ls1 [])) : W p l e room_1 s m #[Value.ref b] below meth c H locs cells slots Qw (F0 m 1569 ls []) := by
  obtain ⟨hx, hb, hml, hown, hts, hXs, hbl, hK, hN, hXs2, hly⟩ := hC
  have hbA : ¬ (fun q : Nat => s.heap.size ≤ q) b := Nat.not_le.mpr hbl
  refine lv_aload_n hx hb dL_law_1569 rfl (lv_at hl 2 rfl) ?_
  refine L2.aftC (va_runV (As := []) (rest := []) ⟨hx, hb, hml, hown, hts⟩ (c_X11_keep l D kA lyc n hn (Ac lyc n) S _) (cwV 0 hts lg_X11_keep rfl rfl rfl (by decide +kernel) ⟨(Nat.le_of_ble_eq_true rfl), (Nat.le_of_ble_eq_true rfl)⟩) ⟨k_blind, hL.recvC hK hn, hL.preC hK hN (hstep n S T  hn hR)⟩ rfl rfl hl.1 rfl (lv_room (Nat.le_of_ble_eq_true rfl)) dL_law_1570 ⟨by have := hc1; show _ ≤ 600000; omega, by have := hc2; show _ ≤ 7302250; omega⟩) hL (fun r S H locs hw hL => ?_)
  refine lv_aload_n hx hb dL_law_1573 rfl (lv_at hl 3 rfl) ?_
  refine L2.aftR (va_runV (As := []) (rest := [.int r]) ⟨hx, hb, hml, hown, hts⟩ (c_X12_keep l D kA lyr rcs rcs_in (Ac lyr rcs) T _) (cwV 0 hts lg_X12_keep rfl rfl rfl (by decide +kernel) ⟨(Nat.le_of_ble_eq_true rfl), (Nat.le_of_ble_eq_true rfl)⟩) ⟨k_blind, hL.recvR hK, hL.preR hK hN hw⟩ rfl rfl hl.1 rfl (lv_room (Nat.le_of_ble_eq_true rfl)) dL_law_1574 ⟨by have := hc1; show _ ≤ 600000; omega, by have := hc2; show _ ≤ 7302250; omega⟩) hL (fun r2 T H locs hw hL => ?_)
  refine lv_icmp_eq (tgt := 1595) hx hb dL_law_1577 (by decide) (fun _ => ?_) (fun hc => absurd hw.1 hc)
  refine W.widen (k := cells + 2) (n := slots + 42) (by omega) (by omega) ?_
  exact next n S T H locs ls hn hw.2 hL hl
/-- a step of again keeps the relation, and the answers are the same -/
def step_again (Rel : List Nat → St → St → Prop) : Prop := ∀ (n : List Nat) (S T : St), (∀ c, c < 59 → c ∈ n) → Rel n S T → wp_X11_again S (fun r S1 => wp_X12_again T (fun r1 T1 => r = r1 ∧ Rel n S1 T1))
set_option maxHeartbeats 4000000 in
set_option maxRecDepth 100000 in
theorem lc_again (hC : LW p s m meth c D kA adK adV lyc lyr b L xs) (hc1 : cells + 2 ≤ 600000) (hc2 : slots + 42 ≤ 7302250) (h5 : ∀ k : Int32, 1 ≤ k → k ≤ 5 → vp_in (x3 + k) L) (hstep : step_again Rel) (hn : ∀ c, c < 59 → c ∈ n) (hR : Rel n S T) (hL : L2 D kA lyc lyr n s.heap S T H locs) (hl : lv_has ls 4 [(3, .int x3), (0, .ref b), (1, .ref (lyc 0)), (2, .ref (lyr 0))])
    (next : ∀ (n1 : List Nat) (S1 T1 : St) (H1 : Heap) (locs1 : List Loc) (ls1 : Array Slot), (∀ c, c < 59 → c ∈ n1) → Rel n1 S1 T1 → L2 D kA lyc lyr n1 s.heap S1 T1 H1 locs1 → lv_has ls1 4 [(3, .int x3), (0, .ref b), (1, .ref (lyc 0)), (2, .ref (lyr 0))] → W p l e room_1 s m #[Value.ref b] below meth c H1 locs1 (cells + 2) (slots + 42) Qw (F0 m 1595 ls1 [])) : W p l e room_1 s m #[Value.ref b] below meth c H locs cells slots Qw (F0 m 1582 ls []) := by
  obtain ⟨hx, hb, hml, hown, hts, hXs, hbl, hK, hN, hXs2, hly⟩ := hC
  have hbA : ¬ (fun q : Nat => s.heap.size ≤ q) b := Nat.not_le.mpr hbl
  refine lv_aload_n hx hb dL_law_1582 rfl (lv_at hl 2 rfl) ?_
  refine L2.aftC (va_runV (As := []) (rest := []) ⟨hx, hb, hml, hown, hts⟩ (c_X11_again l D kA lyc n hn (Ac lyc n) S _) (cwV 0 hts lg_X11_again rfl rfl rfl (by decide +kernel) ⟨(Nat.le_of_ble_eq_true rfl), (Nat.le_of_ble_eq_true rfl)⟩) ⟨k_blind, hL.recvC hK hn, hL.preC hK hN (hstep n S T  hn hR)⟩ rfl rfl hl.1 rfl (lv_room (Nat.le_of_ble_eq_true rfl)) dL_law_1583 ⟨by have := hc1; show _ ≤ 600000; omega, by have := hc2; show _ ≤ 7302250; omega⟩) hL (fun r S H locs hw hL => ?_)
  refine lv_aload_n hx hb dL_law_1586 rfl (lv_at hl 3 rfl) ?_
  refine L2.aftR (va_runV (As := []) (rest := [.int r]) ⟨hx, hb, hml, hown, hts⟩ (c_X12_again l D kA lyr rcs rcs_in (Ac lyr rcs) T _) (cwV 0 hts lg_X12_again rfl rfl rfl (by decide +kernel) ⟨(Nat.le_of_ble_eq_true rfl), (Nat.le_of_ble_eq_true rfl)⟩) ⟨k_blind, hL.recvR hK, hL.preR hK hN hw⟩ rfl rfl hl.1 rfl (lv_room (Nat.le_of_ble_eq_true rfl)) dL_law_1587 ⟨by have := hc1; show _ ≤ 600000; omega, by have := hc2; show _ ≤ 7302250; omega⟩) hL (fun r2 T H locs hw hL => ?_)
  refine lv_icmp_eq (tgt := 1595) hx hb dL_law_1590 (by decide) (fun _ => ?_) (fun hc => absurd hw.1 hc)
  refine W.widen (k := cells + 2) (n := slots + 42) (by omega) (by omega) ?_
  exact next n S T H locs ls hn hw.2 hL hl
end LC
