/-! the law's steps with throws -/
theorem lg_cmp_0 (x : Int64) : lg_cmp x x = 0 := by
  simp [lg_cmp]
section LW4
variable {p : Program} {l : Launch} {e : Env} {R : Room} {s : State} {m : MethodId} {args : Array Value} {below : List Frame} {meth : Method} {c : Code} {Q : State → Prop}
variable {D : va_G} {Z : Nat × Cell} {tys : List (ClassId × FieldType)} {A : Nat → Prop} {H0 : Heap} {ad : mg_Ad} {cells slots : Nat}
theorem lx_receive (K : mg_K p m c mc_W_law 7 s args mb_B mn_RW D mn_cl Z tys) (hty : tys.map (·.2) = ma_ty) (hA : ∀ q, H0.size ≤ q → A q) (hR : 11 ≤ R.frames ∧ 390 ≤ R.locals) {b n : Nat} {xs : Nat → Int32} (hX : va_X b n xs s H0) (hbl : b < H0.size) (hbA : ¬ A b) (hn : n ≤ 3072) {i : Nat} (hi : i + 6 ≤ n) (hc : cells + 1 ≤ R.cells) (hs : slots + 8 ≤ R.slots) {g : ca_S} {h : rb_S} {o : Int64} (kk : lw_N p l e R s m args below meth c Q D Z tys A H0 b i cells slots) {g' : ca_S} {h' : rb_S} {o' : Int64} {k b0 : Int32} {d : Nat} (hd : d ≤ 7) (hW : mg_M l my_W_receive [Cond.codeWith my_W_receive mc_W_receive 8 (some .int) [(0, 16, 19, 13)]] (mg_rm 8 1 8) D mn_cl Z mb_B tys [va_rf (some (ad 0 0)), .int (xs (i + 1)), .int (xs (i + 2)), .int (xs (i + 3)), .int (xs (i + 4)), .int (xs (i + 5)), va_rf (some (ad 40 0))] ad (mr_C tys ma_sh ad (ma_R g (rb_R h o))) 1 8 (mg_PoA tys ma_sh ad (ma_R g (rb_R h o)) (some (.int k)) (ma_R g' (rb_R h o')))) (hB : ∀ ad' : mg_Ad, mr_M l my_B_receive mc_B_receive 9 (some .int) d D mn_cl Z mb_B tys ma_sh [va_rf (some (ad' 20 0)), .int (xs (i + 1)), .int (xs (i + 2)), .int (xs (i + 3)), .int (xs (i + 4)), .int (xs (i + 5))] ad' (ma_R g' (rb_R h o')) (some (.int b0)) (ma_R g' (rb_R h' o'))) (hth : h' 20 0 = k) (hk : k = 0 → o' = b0.toInt64) (T : sm_T g' h') : mg_G p l e R s m args below meth c D mn_cl Z A H0 7 Q ad (mr_C tys ma_sh ad (ma_R g (rb_R h o))) [some (va_rf (some b)), some (va_rf (some (ad 0 0))), some (va_rf (some (ad 20 0))), some (va_rf (some (ad 40 0))), some (.int (Int32.ofNat i))] cells slots [] 112 := by
  refine mg_aload_n K md_W_law_112 rfl ?_
  refine mg_aload_n K md_W_law_113 rfl ?_
  refine mg_iload K md_W_law_114 rfl ?_
  refine mg_iconst K (v := 1) md_W_law_116 (by decide) ?_
  refine mg_iadd K md_W_law_117 ?_
  rw [show Int32.ofNat i + 1 = Int32.ofNat (i + 1) from mi_pl i 1]
  refine mg_sld (i := i + 1) K hX hbl hbA (by omega) hn md_W_law_118 ?_
  refine mg_aload_n K md_W_law_119 rfl ?_
  refine mg_iload K md_W_law_120 rfl ?_
  refine mg_iconst K (v := 2) md_W_law_122 (by decide) ?_
  refine mg_iadd K md_W_law_123 ?_
  rw [show Int32.ofNat i + 2 = Int32.ofNat (i + 2) from mi_pl i 2]
  refine mg_sld (i := i + 2) K hX hbl hbA (by omega) hn md_W_law_124 ?_
  refine mg_aload_n K md_W_law_125 rfl ?_
  refine mg_iload K md_W_law_126 rfl ?_
  refine mg_iconst K (v := 3) md_W_law_128 (by decide) ?_
  refine mg_iadd K md_W_law_129 ?_
  rw [show Int32.ofNat i + 3 = Int32.ofNat (i + 3) from mi_pl i 3]
  refine mg_sld (i := i + 3) K hX hbl hbA (by omega) hn md_W_law_130 ?_
  refine mg_aload_n K md_W_law_131 rfl ?_
  refine mg_iload K md_W_law_132 rfl ?_
  refine mg_iconst K (v := 4) md_W_law_134 (by decide) ?_
  refine mg_iadd K md_W_law_135 ?_
  rw [show Int32.ofNat i + 4 = Int32.ofNat (i + 4) from mi_pl i 4]
  refine mg_sld (i := i + 4) K hX hbl hbA (by omega) hn md_W_law_136 ?_
  refine mg_aload_n K md_W_law_137 rfl ?_
  refine mg_iload K md_W_law_138 rfl ?_
  refine mg_iconst K (v := 5) md_W_law_140 (by decide) ?_
  refine mg_iadd K md_W_law_141 ?_
  rw [show Int32.ofNat i + 5 = Int32.ofNat (i + 5) from mi_pl i 5]
  refine mg_sld (i := i + 5) K hX hbl hbA (by omega) hn md_W_law_142 ?_
  refine mg_aload_n K md_W_law_143 rfl ?_
  refine mg_callSW (n := 7) K hA hW rfl rfl (by show 8 + 1 ≤ _; omega) (by show 8 + (8 + 11) + (30 * 8 + 60) ≤ _; omega) rfl ms_W_44.2.2 (mb 24 (by decide +kernel) rfl) ms_W_44.2.1 ms_W_44.1 (by decide) (by decide +kernel) md_W_law_144 rfl rfl (Nat.le_of_ble_eq_true rfl) ⟨hc, hs⟩ (fun r ad' C' hp => ?_)
  obtain ⟨rfl, had, rfl⟩ := hp
  rw [← had 0 0 Nat.zero_lt_one, ← had 20 0 Nat.zero_lt_one, ← had 40 0 Nat.zero_lt_one]
  refine mg_istore K md_W_law_147 (by decide) ?_
  refine mg_aload_n K md_W_law_149 rfl ?_
  refine mg_aload_n K md_W_law_150 rfl ?_
  refine mg_iload K md_W_law_151 rfl ?_
  refine mg_iconst K (v := 1) md_W_law_153 (by decide) ?_
  refine mg_iadd K md_W_law_154 ?_
  rw [show Int32.ofNat i + 1 = Int32.ofNat (i + 1) from mi_pl i 1]
  refine mg_sld (i := i + 1) K hX hbl hbA (by omega) hn md_W_law_155 ?_
  refine mg_aload_n K md_W_law_156 rfl ?_
  refine mg_iload K md_W_law_157 rfl ?_
  refine mg_iconst K (v := 2) md_W_law_159 (by decide) ?_
  refine mg_iadd K md_W_law_160 ?_
  rw [show Int32.ofNat i + 2 = Int32.ofNat (i + 2) from mi_pl i 2]
  refine mg_sld (i := i + 2) K hX hbl hbA (by omega) hn md_W_law_161 ?_
  refine mg_aload_n K md_W_law_162 rfl ?_
  refine mg_iload K md_W_law_163 rfl ?_
  refine mg_iconst K (v := 3) md_W_law_165 (by decide) ?_
  refine mg_iadd K md_W_law_166 ?_
  rw [show Int32.ofNat i + 3 = Int32.ofNat (i + 3) from mi_pl i 3]
  refine mg_sld (i := i + 3) K hX hbl hbA (by omega) hn md_W_law_167 ?_
  refine mg_aload_n K md_W_law_168 rfl ?_
  refine mg_iload K md_W_law_169 rfl ?_
  refine mg_iconst K (v := 4) md_W_law_171 (by decide) ?_
  refine mg_iadd K md_W_law_172 ?_
  rw [show Int32.ofNat i + 4 = Int32.ofNat (i + 4) from mi_pl i 4]
  refine mg_sld (i := i + 4) K hX hbl hbA (by omega) hn md_W_law_173 ?_
  refine mg_aload_n K md_W_law_174 rfl ?_
  refine mg_iload K md_W_law_175 rfl ?_
  refine mg_iconst K (v := 5) md_W_law_177 (by decide) ?_
  refine mg_iadd K md_W_law_178 ?_
  rw [show Int32.ofNat i + 5 = Int32.ofNat (i + 5) from mi_pl i 5]
  refine mg_sld (i := i + 5) K hX hbl hbA (by omega) hn md_W_law_179 ?_
  refine mr_cV K hA (hB ad') ms_W_49 ⟨by omega, by omega⟩ md_W_law_180 rfl rfl Nat.zero_lt_one rfl (Nat.le_of_ble_eq_true rfl) ⟨by omega, by omega⟩ ?_
  refine mg_istore K md_W_law_183 (by decide) ?_
  refine mg_aload_n K md_W_law_185 rfl ?_
  refine mr_cV K hA (ct_B_thrown hty g' h' o') ms_W_50 ⟨by omega, by omega⟩ md_W_law_186 rfl rfl Nat.zero_lt_one rfl (Nat.le_of_ble_eq_true rfl) ⟨by omega, by omega⟩ ?_
  refine mg_iload K md_W_law_189 rfl ?_
  refine mg_icmp_eq K 196 md_W_law_191 rfl (fun _ => ?_) (fun hne => absurd hth hne)
  refine mg_iload K md_W_law_196 rfl ?_
  have fin : mg_G p l e R s m args below meth c D mn_cl Z A H0 7 Q ad' (mr_C tys ma_sh ad' (ma_R g' (rb_R h' o'))) [some (va_rf (some b)), some (va_rf (some (ad' 0 0))), some (va_rf (some (ad' 20 0))), some (va_rf (some (ad' 40 0))), some (.int (Int32.ofNat i)), some (.int k), some (.int b0)] (cells + 1) (slots + 8) [] 213 := by
    refine mg_goto K 846 md_W_law_213 rfl ?_
    refine mg_take 5 ?_
    exact kk ad' g' h' o' T
  refine mg_if_ne K 213 md_W_law_198 rfl (fun _ => fin) (fun h0 => ?_)
  refine mg_aload_n K md_W_law_201 rfl ?_
  refine mg_iconst K (v := 0) md_W_law_202 (by decide) ?_
  refine mr_lald (n := 1) (t0 := 5) K rfl (ma_t hty 5) md_W_law_203 Nat.zero_lt_one (mi_vn (x := 0) (by omega) (by omega)) ?_
  refine mg_iload K md_W_law_204 rfl ?_
  refine mg_i2l K md_W_law_206 ?_
  refine mg_lcmp K md_W_law_207 ?_
  refine mg_if_eq K 213 md_W_law_208 rfl (fun _ => fin) (fun hne => absurd ?_ hne)
  show lg_cmp o' b0.toInt64 = 0
  rw [hk h0]
  exact lg_cmp_0 _
theorem lx_status (K : mg_K p m c mc_W_law 7 s args mb_B mn_RW D mn_cl Z tys) (hty : tys.map (·.2) = ma_ty) (hA : ∀ q, H0.size ≤ q → A q) (hR : 11 ≤ R.frames ∧ 390 ≤ R.locals) {b n : Nat} {xs : Nat → Int32} (hX : va_X b n xs s H0) (hbl : b < H0.size) (hbA : ¬ A b) (hn : n ≤ 3072) {i : Nat} (hi : i + 6 ≤ n) (hc : cells + 1 ≤ R.cells) (hs : slots + 8 ≤ R.slots) {g : ca_S} {h : rb_S} {o : Int64} (kk : lw_N p l e R s m args below meth c Q D Z tys A H0 b i cells slots) {g' : ca_S} {h' : rb_S} {o' : Int64} {k b0 : Int32} {d : Nat} (hd : d ≤ 7) (hW : mg_M l my_W_status [Cond.codeWith my_W_status mc_W_status 5 (some .int) [(0, 10, 13, 13)]] (mg_rm 8 1 8) D mn_cl Z mb_B tys [va_rf (some (ad 0 0)), .int (xs (i + 1)), .int (xs (i + 2)), va_rf (some (ad 40 0))] ad (mr_C tys ma_sh ad (ma_R g (rb_R h o))) 1 8 (mg_PoA tys ma_sh ad (ma_R g (rb_R h o)) (some (.int k)) (ma_R g' (rb_R h o')))) (hB : ∀ ad' : mg_Ad, mr_M l my_B_status mc_B_status 4 (some .int) d D mn_cl Z mb_B tys ma_sh [va_rf (some (ad' 20 0)), .int (xs (i + 1)), .int (xs (i + 2))] ad' (ma_R g' (rb_R h o')) (some (.int b0)) (ma_R g' (rb_R h' o'))) (hth : h' 20 0 = k) (hk : k = 0 → o' = b0.toInt64) (T : sm_T g' h') : mg_G p l e R s m args below meth c D mn_cl Z A H0 7 Q ad (mr_C tys ma_sh ad (ma_R g (rb_R h o))) [some (va_rf (some b)), some (va_rf (some (ad 0 0))), some (va_rf (some (ad 20 0))), some (va_rf (some (ad 40 0))), some (.int (Int32.ofNat i))] cells slots [] 216 := by
  refine mg_aload_n K md_W_law_216 rfl ?_
  refine mg_aload_n K md_W_law_217 rfl ?_
  refine mg_iload K md_W_law_218 rfl ?_
  refine mg_iconst K (v := 1) md_W_law_220 (by decide) ?_
  refine mg_iadd K md_W_law_221 ?_
  rw [show Int32.ofNat i + 1 = Int32.ofNat (i + 1) from mi_pl i 1]
  refine mg_sld (i := i + 1) K hX hbl hbA (by omega) hn md_W_law_222 ?_
  refine mg_aload_n K md_W_law_223 rfl ?_
  refine mg_iload K md_W_law_224 rfl ?_
  refine mg_iconst K (v := 2) md_W_law_226 (by decide) ?_
  refine mg_iadd K md_W_law_227 ?_
  rw [show Int32.ofNat i + 2 = Int32.ofNat (i + 2) from mi_pl i 2]
  refine mg_sld (i := i + 2) K hX hbl hbA (by omega) hn md_W_law_228 ?_
  refine mg_aload_n K md_W_law_229 rfl ?_
  refine mg_callSW (n := 4) K hA hW rfl rfl (by show 8 + 1 ≤ _; omega) (by show 8 + (5 + 11) + (30 * 8 + 60) ≤ _; omega) rfl ms_W_54.2.2 (mb 24 (by decide +kernel) rfl) ms_W_54.2.1 ms_W_54.1 (by decide) (by decide +kernel) md_W_law_230 rfl rfl (Nat.le_of_ble_eq_true rfl) ⟨hc, hs⟩ (fun r ad' C' hp => ?_)
  obtain ⟨rfl, had, rfl⟩ := hp
  rw [← had 0 0 Nat.zero_lt_one, ← had 20 0 Nat.zero_lt_one, ← had 40 0 Nat.zero_lt_one]
  refine mg_istore K md_W_law_233 (by decide) ?_
  refine mg_aload_n K md_W_law_235 rfl ?_
  refine mg_aload_n K md_W_law_236 rfl ?_
  refine mg_iload K md_W_law_237 rfl ?_
  refine mg_iconst K (v := 1) md_W_law_239 (by decide) ?_
  refine mg_iadd K md_W_law_240 ?_
  rw [show Int32.ofNat i + 1 = Int32.ofNat (i + 1) from mi_pl i 1]
  refine mg_sld (i := i + 1) K hX hbl hbA (by omega) hn md_W_law_241 ?_
  refine mg_aload_n K md_W_law_242 rfl ?_
  refine mg_iload K md_W_law_243 rfl ?_
  refine mg_iconst K (v := 2) md_W_law_245 (by decide) ?_
  refine mg_iadd K md_W_law_246 ?_
  rw [show Int32.ofNat i + 2 = Int32.ofNat (i + 2) from mi_pl i 2]
  refine mg_sld (i := i + 2) K hX hbl hbA (by omega) hn md_W_law_247 ?_
  refine mr_cV K hA (hB ad') ms_W_57 ⟨by omega, by omega⟩ md_W_law_248 rfl rfl Nat.zero_lt_one rfl (Nat.le_of_ble_eq_true rfl) ⟨by omega, by omega⟩ ?_
  refine mg_istore K md_W_law_251 (by decide) ?_
  refine mg_aload_n K md_W_law_253 rfl ?_
  refine mr_cV K hA (ct_B_thrown hty g' h' o') ms_W_50 ⟨by omega, by omega⟩ md_W_law_254 rfl rfl Nat.zero_lt_one rfl (Nat.le_of_ble_eq_true rfl) ⟨by omega, by omega⟩ ?_
  refine mg_iload K md_W_law_257 rfl ?_
  refine mg_icmp_eq K 264 md_W_law_259 rfl (fun _ => ?_) (fun hne => absurd hth hne)
  refine mg_iload K md_W_law_264 rfl ?_
  have fin : mg_G p l e R s m args below meth c D mn_cl Z A H0 7 Q ad' (mr_C tys ma_sh ad' (ma_R g' (rb_R h' o'))) [some (va_rf (some b)), some (va_rf (some (ad' 0 0))), some (va_rf (some (ad' 20 0))), some (va_rf (some (ad' 40 0))), some (.int (Int32.ofNat i)), some (.int k), some (.int b0)] (cells + 1) (slots + 8) [] 281 := by
    refine mg_goto K 846 md_W_law_281 rfl ?_
    refine mg_take 5 ?_
    exact kk ad' g' h' o' T
  refine mg_if_ne K 281 md_W_law_266 rfl (fun _ => fin) (fun h0 => ?_)
  refine mg_aload_n K md_W_law_269 rfl ?_
  refine mg_iconst K (v := 0) md_W_law_270 (by decide) ?_
  refine mr_lald (n := 1) (t0 := 5) K rfl (ma_t hty 5) md_W_law_271 Nat.zero_lt_one (mi_vn (x := 0) (by omega) (by omega)) ?_
  refine mg_iload K md_W_law_272 rfl ?_
  refine mg_i2l K md_W_law_274 ?_
  refine mg_lcmp K md_W_law_275 ?_
  refine mg_if_eq K 281 md_W_law_276 rfl (fun _ => fin) (fun hne => absurd ?_ hne)
  show lg_cmp o' b0.toInt64 = 0
  rw [hk h0]
  exact lg_cmp_0 _
theorem lx_answer (K : mg_K p m c mc_W_law 7 s args mb_B mn_RW D mn_cl Z tys) (hty : tys.map (·.2) = ma_ty) (hA : ∀ q, H0.size ≤ q → A q) (hR : 11 ≤ R.frames ∧ 390 ≤ R.locals) {b n : Nat} {xs : Nat → Int32} (hX : va_X b n xs s H0) (hbl : b < H0.size) (hbA : ¬ A b) (hn : n ≤ 3072) {i : Nat} (hi : i + 6 ≤ n) (hc : cells + 1 ≤ R.cells) (hs : slots + 8 ≤ R.slots) {g : ca_S} {h : rb_S} {o : Int64} (kk : lw_N p l e R s m args below meth c Q D Z tys A H0 b i cells slots) {g' : ca_S} {h' : rb_S} {o' : Int64} {k b0 : Int32} {d : Nat} (hd : d ≤ 7) (hW : mg_M l my_W_answer [Cond.codeWith my_W_answer mc_W_answer 5 (some .int) [(0, 10, 13, 13)]] (mg_rm 8 1 8) D mn_cl Z mb_B tys [va_rf (some (ad 0 0)), .int (xs (i + 1)), .int (xs (i + 2)), va_rf (some (ad 40 0))] ad (mr_C tys ma_sh ad (ma_R g (rb_R h o))) 1 8 (mg_PoA tys ma_sh ad (ma_R g (rb_R h o)) (some (.int k)) (ma_R g' (rb_R h o')))) (hB : ∀ ad' : mg_Ad, mr_M l my_B_answer mc_B_answer 4 (some .int) d D mn_cl Z mb_B tys ma_sh [va_rf (some (ad' 20 0)), .int (xs (i + 1)), .int (xs (i + 2))] ad' (ma_R g' (rb_R h o')) (some (.int b0)) (ma_R g' (rb_R h' o'))) (hth : h' 20 0 = k) (hk : k = 0 → o' = b0.toInt64) (T : sm_T g' h') : mg_G p l e R s m args below meth c D mn_cl Z A H0 7 Q ad (mr_C tys ma_sh ad (ma_R g (rb_R h o))) [some (va_rf (some b)), some (va_rf (some (ad 0 0))), some (va_rf (some (ad 20 0))), some (va_rf (some (ad 40 0))), some (.int (Int32.ofNat i))] cells slots [] 284 := by
  refine mg_aload_n K md_W_law_284 rfl ?_
  refine mg_aload_n K md_W_law_285 rfl ?_
  refine mg_iload K md_W_law_286 rfl ?_
  refine mg_iconst K (v := 1) md_W_law_288 (by decide) ?_
  refine mg_iadd K md_W_law_289 ?_
  rw [show Int32.ofNat i + 1 = Int32.ofNat (i + 1) from mi_pl i 1]
  refine mg_sld (i := i + 1) K hX hbl hbA (by omega) hn md_W_law_290 ?_
  refine mg_aload_n K md_W_law_291 rfl ?_
  refine mg_iload K md_W_law_292 rfl ?_
  refine mg_iconst K (v := 2) md_W_law_294 (by decide) ?_
  refine mg_iadd K md_W_law_295 ?_
  rw [show Int32.ofNat i + 2 = Int32.ofNat (i + 2) from mi_pl i 2]
  refine mg_sld (i := i + 2) K hX hbl hbA (by omega) hn md_W_law_296 ?_
  refine mg_aload_n K md_W_law_297 rfl ?_
  refine mg_callSW (n := 4) K hA hW rfl rfl (by show 8 + 1 ≤ _; omega) (by show 8 + (5 + 11) + (30 * 8 + 60) ≤ _; omega) rfl ms_W_58.2.2 (mb 24 (by decide +kernel) rfl) ms_W_58.2.1 ms_W_58.1 (by decide) (by decide +kernel) md_W_law_298 rfl rfl (Nat.le_of_ble_eq_true rfl) ⟨hc, hs⟩ (fun r ad' C' hp => ?_)
  obtain ⟨rfl, had, rfl⟩ := hp
  rw [← had 0 0 Nat.zero_lt_one, ← had 20 0 Nat.zero_lt_one, ← had 40 0 Nat.zero_lt_one]
  refine mg_istore K md_W_law_301 (by decide) ?_
  refine mg_aload_n K md_W_law_303 rfl ?_
  refine mg_aload_n K md_W_law_304 rfl ?_
  refine mg_iload K md_W_law_305 rfl ?_
  refine mg_iconst K (v := 1) md_W_law_307 (by decide) ?_
  refine mg_iadd K md_W_law_308 ?_
  rw [show Int32.ofNat i + 1 = Int32.ofNat (i + 1) from mi_pl i 1]
  refine mg_sld (i := i + 1) K hX hbl hbA (by omega) hn md_W_law_309 ?_
  refine mg_aload_n K md_W_law_310 rfl ?_
  refine mg_iload K md_W_law_311 rfl ?_
  refine mg_iconst K (v := 2) md_W_law_313 (by decide) ?_
  refine mg_iadd K md_W_law_314 ?_
  rw [show Int32.ofNat i + 2 = Int32.ofNat (i + 2) from mi_pl i 2]
  refine mg_sld (i := i + 2) K hX hbl hbA (by omega) hn md_W_law_315 ?_
  refine mr_cV K hA (hB ad') ms_W_60 ⟨by omega, by omega⟩ md_W_law_316 rfl rfl Nat.zero_lt_one rfl (Nat.le_of_ble_eq_true rfl) ⟨by omega, by omega⟩ ?_
  refine mg_istore K md_W_law_319 (by decide) ?_
  refine mg_aload_n K md_W_law_321 rfl ?_
  refine mr_cV K hA (ct_B_thrown hty g' h' o') ms_W_50 ⟨by omega, by omega⟩ md_W_law_322 rfl rfl Nat.zero_lt_one rfl (Nat.le_of_ble_eq_true rfl) ⟨by omega, by omega⟩ ?_
  refine mg_iload K md_W_law_325 rfl ?_
  refine mg_icmp_eq K 332 md_W_law_327 rfl (fun _ => ?_) (fun hne => absurd hth hne)
  refine mg_iload K md_W_law_332 rfl ?_
  have fin : mg_G p l e R s m args below meth c D mn_cl Z A H0 7 Q ad' (mr_C tys ma_sh ad' (ma_R g' (rb_R h' o'))) [some (va_rf (some b)), some (va_rf (some (ad' 0 0))), some (va_rf (some (ad' 20 0))), some (va_rf (some (ad' 40 0))), some (.int (Int32.ofNat i)), some (.int k), some (.int b0)] (cells + 1) (slots + 8) [] 349 := by
    refine mg_goto K 846 md_W_law_349 rfl ?_
    refine mg_take 5 ?_
    exact kk ad' g' h' o' T
  refine mg_if_ne K 349 md_W_law_334 rfl (fun _ => fin) (fun h0 => ?_)
  refine mg_aload_n K md_W_law_337 rfl ?_
  refine mg_iconst K (v := 0) md_W_law_338 (by decide) ?_
  refine mr_lald (n := 1) (t0 := 5) K rfl (ma_t hty 5) md_W_law_339 Nat.zero_lt_one (mi_vn (x := 0) (by omega) (by omega)) ?_
  refine mg_iload K md_W_law_340 rfl ?_
  refine mg_i2l K md_W_law_342 ?_
  refine mg_lcmp K md_W_law_343 ?_
  refine mg_if_eq K 349 md_W_law_344 rfl (fun _ => fin) (fun hne => absurd ?_ hne)
  show lg_cmp o' b0.toInt64 = 0
  rw [hk h0]
  exact lg_cmp_0 _
theorem lx_tick (K : mg_K p m c mc_W_law 7 s args mb_B mn_RW D mn_cl Z tys) (hty : tys.map (·.2) = ma_ty) (hA : ∀ q, H0.size ≤ q → A q) (hR : 11 ≤ R.frames ∧ 390 ≤ R.locals) {b n : Nat} {xs : Nat → Int32} (hX : va_X b n xs s H0) (hbl : b < H0.size) (hbA : ¬ A b) (hn : n ≤ 3072) {i : Nat} (hi : i + 6 ≤ n) (hc : cells + 1 ≤ R.cells) (hs : slots + 8 ≤ R.slots) {g : ca_S} {h : rb_S} {o : Int64} (kk : lw_N p l e R s m args below meth c Q D Z tys A H0 b i cells slots) {g' : ca_S} {h' : rb_S} {o' : Int64} {k b0 : Int32} {d : Nat} (hd : d ≤ 7) (hW : mg_M l my_W_tick [Cond.codeWith my_W_tick mc_W_tick 4 (some .int) [(0, 9, 12, 13)]] (mg_rm 8 1 8) D mn_cl Z mb_B tys [va_rf (some (ad 0 0)), .int (xs (i + 1)), va_rf (some (ad 40 0))] ad (mr_C tys ma_sh ad (ma_R g (rb_R h o))) 1 8 (mg_PoA tys ma_sh ad (ma_R g (rb_R h o)) (some (.int k)) (ma_R g' (rb_R h o')))) (hB : ∀ ad' : mg_Ad, mr_M l my_B_tick mc_B_tick 6 (some .int) d D mn_cl Z mb_B tys ma_sh [va_rf (some (ad' 20 0)), .int (xs (i + 1))] ad' (ma_R g' (rb_R h o')) (some (.int b0)) (ma_R g' (rb_R h' o'))) (hth : h' 20 0 = k) (hk : k = 0 → o' = b0.toInt64) (T : sm_T g' h') : mg_G p l e R s m args below meth c D mn_cl Z A H0 7 Q ad (mr_C tys ma_sh ad (ma_R g (rb_R h o))) [some (va_rf (some b)), some (va_rf (some (ad 0 0))), some (va_rf (some (ad 20 0))), some (va_rf (some (ad 40 0))), some (.int (Int32.ofNat i))] cells slots [] 430 := by
  refine mg_aload_n K md_W_law_430 rfl ?_
  refine mg_aload_n K md_W_law_431 rfl ?_
  refine mg_iload K md_W_law_432 rfl ?_
  refine mg_iconst K (v := 1) md_W_law_434 (by decide) ?_
  refine mg_iadd K md_W_law_435 ?_
  rw [show Int32.ofNat i + 1 = Int32.ofNat (i + 1) from mi_pl i 1]
  refine mg_sld (i := i + 1) K hX hbl hbA (by omega) hn md_W_law_436 ?_
  refine mg_aload_n K md_W_law_437 rfl ?_
  refine mg_callSW (n := 3) K hA hW rfl rfl (by show 8 + 1 ≤ _; omega) (by show 8 + (4 + 11) + (30 * 8 + 60) ≤ _; omega) rfl ms_W_71.2.2 (mb 24 (by decide +kernel) rfl) ms_W_71.2.1 ms_W_71.1 (by decide) (by decide +kernel) md_W_law_438 rfl rfl (Nat.le_of_ble_eq_true rfl) ⟨hc, hs⟩ (fun r ad' C' hp => ?_)
  obtain ⟨rfl, had, rfl⟩ := hp
  rw [← had 0 0 Nat.zero_lt_one, ← had 20 0 Nat.zero_lt_one, ← had 40 0 Nat.zero_lt_one]
  refine mg_istore K md_W_law_441 (by decide) ?_
  refine mg_aload_n K md_W_law_443 rfl ?_
  refine mg_aload_n K md_W_law_444 rfl ?_
  refine mg_iload K md_W_law_445 rfl ?_
  refine mg_iconst K (v := 1) md_W_law_447 (by decide) ?_
  refine mg_iadd K md_W_law_448 ?_
  rw [show Int32.ofNat i + 1 = Int32.ofNat (i + 1) from mi_pl i 1]
  refine mg_sld (i := i + 1) K hX hbl hbA (by omega) hn md_W_law_449 ?_
  refine mr_cV K hA (hB ad') ms_W_74 ⟨by omega, by omega⟩ md_W_law_450 rfl rfl Nat.zero_lt_one rfl (Nat.le_of_ble_eq_true rfl) ⟨by omega, by omega⟩ ?_
  refine mg_istore K md_W_law_453 (by decide) ?_
  refine mg_aload_n K md_W_law_455 rfl ?_
  refine mr_cV K hA (ct_B_thrown hty g' h' o') ms_W_50 ⟨by omega, by omega⟩ md_W_law_456 rfl rfl Nat.zero_lt_one rfl (Nat.le_of_ble_eq_true rfl) ⟨by omega, by omega⟩ ?_
  refine mg_iload K md_W_law_459 rfl ?_
  refine mg_icmp_eq K 466 md_W_law_461 rfl (fun _ => ?_) (fun hne => absurd hth hne)
  refine mg_iload K md_W_law_466 rfl ?_
  have fin : mg_G p l e R s m args below meth c D mn_cl Z A H0 7 Q ad' (mr_C tys ma_sh ad' (ma_R g' (rb_R h' o'))) [some (va_rf (some b)), some (va_rf (some (ad' 0 0))), some (va_rf (some (ad' 20 0))), some (va_rf (some (ad' 40 0))), some (.int (Int32.ofNat i)), some (.int k), some (.int b0)] (cells + 1) (slots + 8) [] 483 := by
    refine mg_goto K 846 md_W_law_483 rfl ?_
    refine mg_take 5 ?_
    exact kk ad' g' h' o' T
  refine mg_if_ne K 483 md_W_law_468 rfl (fun _ => fin) (fun h0 => ?_)
  refine mg_aload_n K md_W_law_471 rfl ?_
  refine mg_iconst K (v := 0) md_W_law_472 (by decide) ?_
  refine mr_lald (n := 1) (t0 := 5) K rfl (ma_t hty 5) md_W_law_473 Nat.zero_lt_one (mi_vn (x := 0) (by omega) (by omega)) ?_
  refine mg_iload K md_W_law_474 rfl ?_
  refine mg_i2l K md_W_law_476 ?_
  refine mg_lcmp K md_W_law_477 ?_
  refine mg_if_eq K 483 md_W_law_478 rfl (fun _ => fin) (fun hne => absurd ?_ hne)
  show lg_cmp o' b0.toInt64 = 0
  rw [hk h0]
  exact lg_cmp_0 _
theorem lx_skip (K : mg_K p m c mc_W_law 7 s args mb_B mn_RW D mn_cl Z tys) (hty : tys.map (·.2) = ma_ty) (hA : ∀ q, H0.size ≤ q → A q) (hR : 11 ≤ R.frames ∧ 390 ≤ R.locals) {b n : Nat} {xs : Nat → Int32} (hX : va_X b n xs s H0) (hbl : b < H0.size) (hbA : ¬ A b) (hn : n ≤ 3072) {i : Nat} (hi : i + 6 ≤ n) (hc : cells + 1 ≤ R.cells) (hs : slots + 8 ≤ R.slots) {g : ca_S} {h : rb_S} {o : Int64} (kk : lw_N p l e R s m args below meth c Q D Z tys A H0 b i cells slots) {g' : ca_S} {h' : rb_S} {o' : Int64} {k b0 : Int32} {d : Nat} (hd : d ≤ 7) (hW : mg_M l my_W_skip [Cond.codeWith my_W_skip mc_W_skip 4 (some .int) [(0, 9, 12, 13)]] (mg_rm 8 1 8) D mn_cl Z mb_B tys [va_rf (some (ad 0 0)), .int (xs (i + 1)), va_rf (some (ad 40 0))] ad (mr_C tys ma_sh ad (ma_R g (rb_R h o))) 1 8 (mg_PoA tys ma_sh ad (ma_R g (rb_R h o)) (some (.int k)) (ma_R g' (rb_R h o')))) (hB : ∀ ad' : mg_Ad, mr_M l my_B_skip mc_B_skip 6 (some .int) d D mn_cl Z mb_B tys ma_sh [va_rf (some (ad' 20 0)), .int (xs (i + 1))] ad' (ma_R g' (rb_R h o')) (some (.int b0)) (ma_R g' (rb_R h' o'))) (hth : h' 20 0 = k) (hk : k = 0 → o' = b0.toInt64) (T : sm_T g' h') : mg_G p l e R s m args below meth c D mn_cl Z A H0 7 Q ad (mr_C tys ma_sh ad (ma_R g (rb_R h o))) [some (va_rf (some b)), some (va_rf (some (ad 0 0))), some (va_rf (some (ad 20 0))), some (va_rf (some (ad 40 0))), some (.int (Int32.ofNat i))] cells slots [] 486 := by
  refine mg_aload_n K md_W_law_486 rfl ?_
  refine mg_aload_n K md_W_law_487 rfl ?_
  refine mg_iload K md_W_law_488 rfl ?_
  refine mg_iconst K (v := 1) md_W_law_490 (by decide) ?_
  refine mg_iadd K md_W_law_491 ?_
  rw [show Int32.ofNat i + 1 = Int32.ofNat (i + 1) from mi_pl i 1]
  refine mg_sld (i := i + 1) K hX hbl hbA (by omega) hn md_W_law_492 ?_
  refine mg_aload_n K md_W_law_493 rfl ?_
  refine mg_callSW (n := 3) K hA hW rfl rfl (by show 8 + 1 ≤ _; omega) (by show 8 + (4 + 11) + (30 * 8 + 60) ≤ _; omega) rfl ms_W_75.2.2 (mb 24 (by decide +kernel) rfl) ms_W_75.2.1 ms_W_75.1 (by decide) (by decide +kernel) md_W_law_494 rfl rfl (Nat.le_of_ble_eq_true rfl) ⟨hc, hs⟩ (fun r ad' C' hp => ?_)
  obtain ⟨rfl, had, rfl⟩ := hp
  rw [← had 0 0 Nat.zero_lt_one, ← had 20 0 Nat.zero_lt_one, ← had 40 0 Nat.zero_lt_one]
  refine mg_istore K md_W_law_497 (by decide) ?_
  refine mg_aload_n K md_W_law_499 rfl ?_
  refine mg_aload_n K md_W_law_500 rfl ?_
  refine mg_iload K md_W_law_501 rfl ?_
  refine mg_iconst K (v := 1) md_W_law_503 (by decide) ?_
  refine mg_iadd K md_W_law_504 ?_
  rw [show Int32.ofNat i + 1 = Int32.ofNat (i + 1) from mi_pl i 1]
  refine mg_sld (i := i + 1) K hX hbl hbA (by omega) hn md_W_law_505 ?_
  refine mr_cV K hA (hB ad') ms_W_77 ⟨by omega, by omega⟩ md_W_law_506 rfl rfl Nat.zero_lt_one rfl (Nat.le_of_ble_eq_true rfl) ⟨by omega, by omega⟩ ?_
  refine mg_istore K md_W_law_509 (by decide) ?_
  refine mg_aload_n K md_W_law_511 rfl ?_
  refine mr_cV K hA (ct_B_thrown hty g' h' o') ms_W_50 ⟨by omega, by omega⟩ md_W_law_512 rfl rfl Nat.zero_lt_one rfl (Nat.le_of_ble_eq_true rfl) ⟨by omega, by omega⟩ ?_
  refine mg_iload K md_W_law_515 rfl ?_
  refine mg_icmp_eq K 522 md_W_law_517 rfl (fun _ => ?_) (fun hne => absurd hth hne)
  refine mg_iload K md_W_law_522 rfl ?_
  have fin : mg_G p l e R s m args below meth c D mn_cl Z A H0 7 Q ad' (mr_C tys ma_sh ad' (ma_R g' (rb_R h' o'))) [some (va_rf (some b)), some (va_rf (some (ad' 0 0))), some (va_rf (some (ad' 20 0))), some (va_rf (some (ad' 40 0))), some (.int (Int32.ofNat i)), some (.int k), some (.int b0)] (cells + 1) (slots + 8) [] 539 := by
    refine mg_goto K 846 md_W_law_539 rfl ?_
    refine mg_take 5 ?_
    exact kk ad' g' h' o' T
  refine mg_if_ne K 539 md_W_law_524 rfl (fun _ => fin) (fun h0 => ?_)
  refine mg_aload_n K md_W_law_527 rfl ?_
  refine mg_iconst K (v := 0) md_W_law_528 (by decide) ?_
  refine mr_lald (n := 1) (t0 := 5) K rfl (ma_t hty 5) md_W_law_529 Nat.zero_lt_one (mi_vn (x := 0) (by omega) (by omega)) ?_
  refine mg_iload K md_W_law_530 rfl ?_
  refine mg_i2l K md_W_law_532 ?_
  refine mg_lcmp K md_W_law_533 ?_
  refine mg_if_eq K 539 md_W_law_534 rfl (fun _ => fin) (fun hne => absurd ?_ hne)
  show lg_cmp o' b0.toInt64 = 0
  rw [hk h0]
  exact lg_cmp_0 _
theorem lx_cut (K : mg_K p m c mc_W_law 7 s args mb_B mn_RW D mn_cl Z tys) (hty : tys.map (·.2) = ma_ty) (hA : ∀ q, H0.size ≤ q → A q) (hR : 11 ≤ R.frames ∧ 390 ≤ R.locals) {b n : Nat} {xs : Nat → Int32} (hX : va_X b n xs s H0) (hbl : b < H0.size) (hbA : ¬ A b) (hn : n ≤ 3072) {i : Nat} (hi : i + 6 ≤ n) (hc : cells + 1 ≤ R.cells) (hs : slots + 8 ≤ R.slots) {g : ca_S} {h : rb_S} {o : Int64} (kk : lw_N p l e R s m args below meth c Q D Z tys A H0 b i cells slots) {g' : ca_S} {h' : rb_S} {o' : Int64} {k b0 : Int32} {d : Nat} (hd : d ≤ 7) (hW : mg_M l my_W_cut [Cond.codeWith my_W_cut mc_W_cut 4 (some .int) [(0, 9, 12, 13)]] (mg_rm 8 1 8) D mn_cl Z mb_B tys [va_rf (some (ad 0 0)), .int (xs (i + 1)), va_rf (some (ad 40 0))] ad (mr_C tys ma_sh ad (ma_R g (rb_R h o))) 1 8 (mg_PoA tys ma_sh ad (ma_R g (rb_R h o)) (some (.int k)) (ma_R g' (rb_R h o')))) (hB : ∀ ad' : mg_Ad, mr_M l my_B_cut mc_B_cut 4 (some .int) d D mn_cl Z mb_B tys ma_sh [va_rf (some (ad' 20 0)), .int (xs (i + 1))] ad' (ma_R g' (rb_R h o')) (some (.int b0)) (ma_R g' (rb_R h' o'))) (hth : h' 20 0 = k) (hk : k = 0 → o' = b0.toInt64) (T : sm_T g' h') : mg_G p l e R s m args below meth c D mn_cl Z A H0 7 Q ad (mr_C tys ma_sh ad (ma_R g (rb_R h o))) [some (va_rf (some b)), some (va_rf (some (ad 0 0))), some (va_rf (some (ad 20 0))), some (va_rf (some (ad 40 0))), some (.int (Int32.ofNat i))] cells slots [] 542 := by
  refine mg_aload_n K md_W_law_542 rfl ?_
  refine mg_aload_n K md_W_law_543 rfl ?_
  refine mg_iload K md_W_law_544 rfl ?_
  refine mg_iconst K (v := 1) md_W_law_546 (by decide) ?_
  refine mg_iadd K md_W_law_547 ?_
  rw [show Int32.ofNat i + 1 = Int32.ofNat (i + 1) from mi_pl i 1]
  refine mg_sld (i := i + 1) K hX hbl hbA (by omega) hn md_W_law_548 ?_
  refine mg_aload_n K md_W_law_549 rfl ?_
  refine mg_callSW (n := 3) K hA hW rfl rfl (by show 8 + 1 ≤ _; omega) (by show 8 + (4 + 11) + (30 * 8 + 60) ≤ _; omega) rfl ms_W_78.2.2 (mb 24 (by decide +kernel) rfl) ms_W_78.2.1 ms_W_78.1 (by decide) (by decide +kernel) md_W_law_550 rfl rfl (Nat.le_of_ble_eq_true rfl) ⟨hc, hs⟩ (fun r ad' C' hp => ?_)
  obtain ⟨rfl, had, rfl⟩ := hp
  rw [← had 0 0 Nat.zero_lt_one, ← had 20 0 Nat.zero_lt_one, ← had 40 0 Nat.zero_lt_one]
  refine mg_istore K md_W_law_553 (by decide) ?_
  refine mg_aload_n K md_W_law_555 rfl ?_
  refine mg_aload_n K md_W_law_556 rfl ?_
  refine mg_iload K md_W_law_557 rfl ?_
  refine mg_iconst K (v := 1) md_W_law_559 (by decide) ?_
  refine mg_iadd K md_W_law_560 ?_
  rw [show Int32.ofNat i + 1 = Int32.ofNat (i + 1) from mi_pl i 1]
  refine mg_sld (i := i + 1) K hX hbl hbA (by omega) hn md_W_law_561 ?_
  refine mr_cV K hA (hB ad') ms_W_80 ⟨by omega, by omega⟩ md_W_law_562 rfl rfl Nat.zero_lt_one rfl (Nat.le_of_ble_eq_true rfl) ⟨by omega, by omega⟩ ?_
  refine mg_istore K md_W_law_565 (by decide) ?_
  refine mg_aload_n K md_W_law_567 rfl ?_
  refine mr_cV K hA (ct_B_thrown hty g' h' o') ms_W_50 ⟨by omega, by omega⟩ md_W_law_568 rfl rfl Nat.zero_lt_one rfl (Nat.le_of_ble_eq_true rfl) ⟨by omega, by omega⟩ ?_
  refine mg_iload K md_W_law_571 rfl ?_
  refine mg_icmp_eq K 578 md_W_law_573 rfl (fun _ => ?_) (fun hne => absurd hth hne)
  refine mg_iload K md_W_law_578 rfl ?_
  have fin : mg_G p l e R s m args below meth c D mn_cl Z A H0 7 Q ad' (mr_C tys ma_sh ad' (ma_R g' (rb_R h' o'))) [some (va_rf (some b)), some (va_rf (some (ad' 0 0))), some (va_rf (some (ad' 20 0))), some (va_rf (some (ad' 40 0))), some (.int (Int32.ofNat i)), some (.int k), some (.int b0)] (cells + 1) (slots + 8) [] 595 := by
    refine mg_goto K 846 md_W_law_595 rfl ?_
    refine mg_take 5 ?_
    exact kk ad' g' h' o' T
  refine mg_if_ne K 595 md_W_law_580 rfl (fun _ => fin) (fun h0 => ?_)
  refine mg_aload_n K md_W_law_583 rfl ?_
  refine mg_iconst K (v := 0) md_W_law_584 (by decide) ?_
  refine mr_lald (n := 1) (t0 := 5) K rfl (ma_t hty 5) md_W_law_585 Nat.zero_lt_one (mi_vn (x := 0) (by omega) (by omega)) ?_
  refine mg_iload K md_W_law_586 rfl ?_
  refine mg_i2l K md_W_law_588 ?_
  refine mg_lcmp K md_W_law_589 ?_
  refine mg_if_eq K 595 md_W_law_590 rfl (fun _ => fin) (fun hne => absurd ?_ hne)
  show lg_cmp o' b0.toInt64 = 0
  rw [hk h0]
  exact lg_cmp_0 _
theorem lx_replay (K : mg_K p m c mc_W_law 7 s args mb_B mn_RW D mn_cl Z tys) (hty : tys.map (·.2) = ma_ty) (hA : ∀ q, H0.size ≤ q → A q) (hR : 11 ≤ R.frames ∧ 390 ≤ R.locals) {b n : Nat} {xs : Nat → Int32} (hX : va_X b n xs s H0) (hbl : b < H0.size) (hbA : ¬ A b) (hn : n ≤ 3072) {i : Nat} (hi : i + 6 ≤ n) (hc : cells + 1 ≤ R.cells) (hs : slots + 8 ≤ R.slots) {g : ca_S} {h : rb_S} {o : Int64} (kk : lw_N p l e R s m args below meth c Q D Z tys A H0 b i cells slots) {g' : ca_S} {h' : rb_S} {o' : Int64} {k b0 : Int32} {d : Nat} (hd : d ≤ 7) (hW : mg_M l my_W_replay [Cond.codeWith my_W_replay mc_W_replay 5 (some .int) [(0, 10, 13, 13)]] (mg_rm 8 1 8) D mn_cl Z mb_B tys [va_rf (some (ad 0 0)), .int (xs (i + 1)), .int (xs (i + 2)), va_rf (some (ad 40 0))] ad (mr_C tys ma_sh ad (ma_R g (rb_R h o))) 1 8 (mg_PoA tys ma_sh ad (ma_R g (rb_R h o)) (some (.int k)) (ma_R g' (rb_R h o')))) (hB : ∀ ad' : mg_Ad, mr_M l my_B_replay mc_B_replay 7 (some .int) d D mn_cl Z mb_B tys ma_sh [va_rf (some (ad' 20 0)), .int (xs (i + 1)), .int (xs (i + 2))] ad' (ma_R g' (rb_R h o')) (some (.int b0)) (ma_R g' (rb_R h' o'))) (hth : h' 20 0 = k) (hk : k = 0 → o' = b0.toInt64) (T : sm_T g' h') : mg_G p l e R s m args below meth c D mn_cl Z A H0 7 Q ad (mr_C tys ma_sh ad (ma_R g (rb_R h o))) [some (va_rf (some b)), some (va_rf (some (ad 0 0))), some (va_rf (some (ad 20 0))), some (va_rf (some (ad 40 0))), some (.int (Int32.ofNat i))] cells slots [] 598 := by
  refine mg_aload_n K md_W_law_598 rfl ?_
  refine mg_aload_n K md_W_law_599 rfl ?_
  refine mg_iload K md_W_law_600 rfl ?_
  refine mg_iconst K (v := 1) md_W_law_602 (by decide) ?_
  refine mg_iadd K md_W_law_603 ?_
  rw [show Int32.ofNat i + 1 = Int32.ofNat (i + 1) from mi_pl i 1]
  refine mg_sld (i := i + 1) K hX hbl hbA (by omega) hn md_W_law_604 ?_
  refine mg_aload_n K md_W_law_605 rfl ?_
  refine mg_iload K md_W_law_606 rfl ?_
  refine mg_iconst K (v := 2) md_W_law_608 (by decide) ?_
  refine mg_iadd K md_W_law_609 ?_
  rw [show Int32.ofNat i + 2 = Int32.ofNat (i + 2) from mi_pl i 2]
  refine mg_sld (i := i + 2) K hX hbl hbA (by omega) hn md_W_law_610 ?_
  refine mg_aload_n K md_W_law_611 rfl ?_
  refine mg_callSW (n := 4) K hA hW rfl rfl (by show 8 + 1 ≤ _; omega) (by show 8 + (5 + 11) + (30 * 8 + 60) ≤ _; omega) rfl ms_W_81.2.2 (mb 24 (by decide +kernel) rfl) ms_W_81.2.1 ms_W_81.1 (by decide) (by decide +kernel) md_W_law_612 rfl rfl (Nat.le_of_ble_eq_true rfl) ⟨hc, hs⟩ (fun r ad' C' hp => ?_)
  obtain ⟨rfl, had, rfl⟩ := hp
  rw [← had 0 0 Nat.zero_lt_one, ← had 20 0 Nat.zero_lt_one, ← had 40 0 Nat.zero_lt_one]
  refine mg_istore K md_W_law_615 (by decide) ?_
  refine mg_aload_n K md_W_law_617 rfl ?_
  refine mg_aload_n K md_W_law_618 rfl ?_
  refine mg_iload K md_W_law_619 rfl ?_
  refine mg_iconst K (v := 1) md_W_law_621 (by decide) ?_
  refine mg_iadd K md_W_law_622 ?_
  rw [show Int32.ofNat i + 1 = Int32.ofNat (i + 1) from mi_pl i 1]
  refine mg_sld (i := i + 1) K hX hbl hbA (by omega) hn md_W_law_623 ?_
  refine mg_aload_n K md_W_law_624 rfl ?_
  refine mg_iload K md_W_law_625 rfl ?_
  refine mg_iconst K (v := 2) md_W_law_627 (by decide) ?_
  refine mg_iadd K md_W_law_628 ?_
  rw [show Int32.ofNat i + 2 = Int32.ofNat (i + 2) from mi_pl i 2]
  refine mg_sld (i := i + 2) K hX hbl hbA (by omega) hn md_W_law_629 ?_
  refine mr_cV K hA (hB ad') ms_W_83 ⟨by omega, by omega⟩ md_W_law_630 rfl rfl Nat.zero_lt_one rfl (Nat.le_of_ble_eq_true rfl) ⟨by omega, by omega⟩ ?_
  refine mg_istore K md_W_law_633 (by decide) ?_
  refine mg_aload_n K md_W_law_635 rfl ?_
  refine mr_cV K hA (ct_B_thrown hty g' h' o') ms_W_50 ⟨by omega, by omega⟩ md_W_law_636 rfl rfl Nat.zero_lt_one rfl (Nat.le_of_ble_eq_true rfl) ⟨by omega, by omega⟩ ?_
  refine mg_iload K md_W_law_639 rfl ?_
  refine mg_icmp_eq K 646 md_W_law_641 rfl (fun _ => ?_) (fun hne => absurd hth hne)
  refine mg_iload K md_W_law_646 rfl ?_
  have fin : mg_G p l e R s m args below meth c D mn_cl Z A H0 7 Q ad' (mr_C tys ma_sh ad' (ma_R g' (rb_R h' o'))) [some (va_rf (some b)), some (va_rf (some (ad' 0 0))), some (va_rf (some (ad' 20 0))), some (va_rf (some (ad' 40 0))), some (.int (Int32.ofNat i)), some (.int k), some (.int b0)] (cells + 1) (slots + 8) [] 663 := by
    refine mg_goto K 846 md_W_law_663 rfl ?_
    refine mg_take 5 ?_
    exact kk ad' g' h' o' T
  refine mg_if_ne K 663 md_W_law_648 rfl (fun _ => fin) (fun h0 => ?_)
  refine mg_aload_n K md_W_law_651 rfl ?_
  refine mg_iconst K (v := 0) md_W_law_652 (by decide) ?_
  refine mr_lald (n := 1) (t0 := 5) K rfl (ma_t hty 5) md_W_law_653 Nat.zero_lt_one (mi_vn (x := 0) (by omega) (by omega)) ?_
  refine mg_iload K md_W_law_654 rfl ?_
  refine mg_i2l K md_W_law_656 ?_
  refine mg_lcmp K md_W_law_657 ?_
  refine mg_if_eq K 663 md_W_law_658 rfl (fun _ => fin) (fun hne => absurd ?_ hne)
  show lg_cmp o' b0.toInt64 = 0
  rw [hk h0]
  exact lg_cmp_0 _
theorem lx_look (K : mg_K p m c mc_W_law 7 s args mb_B mn_RW D mn_cl Z tys) (hty : tys.map (·.2) = ma_ty) (hA : ∀ q, H0.size ≤ q → A q) (hR : 11 ≤ R.frames ∧ 390 ≤ R.locals) {b n : Nat} {xs : Nat → Int32} (hX : va_X b n xs s H0) (hbl : b < H0.size) (hbA : ¬ A b) (hn : n ≤ 3072) {i : Nat} (hi : i + 6 ≤ n) (hc : cells + 1 ≤ R.cells) (hs : slots + 8 ≤ R.slots) {g : ca_S} {h : rb_S} {o : Int64} (kk : lw_N p l e R s m args below meth c Q D Z tys A H0 b i cells slots) {g' : ca_S} {h' : rb_S} {o' : Int64} {k b0 : Int32} {d : Nat} (hd : d ≤ 7) (hW : mg_M l my_W_look [Cond.codeWith my_W_look mc_W_look 5 (some .int) [(0, 10, 13, 38)]] (mg_rm 8 1 8) D mn_cl Z mb_B tys [va_rf (some (ad 0 0)), .int (xs (i + 1)), .int (xs (i + 2)), va_rf (some (ad 40 0))] ad (mr_C tys ma_sh ad (ma_R g (rb_R h o))) 1 8 (mg_PoA tys ma_sh ad (ma_R g (rb_R h o)) (some (.int k)) (ma_R g' (rb_R h o')))) (hB : ∀ ad' : mg_Ad, mr_M l my_B_look mc_B_look 5 (some .int) d D mn_cl Z mb_B tys ma_sh [va_rf (some (ad' 20 0)), .int (xs (i + 1)), .int (xs (i + 2))] ad' (ma_R g' (rb_R h o')) (some (.int b0)) (ma_R g' (rb_R h' o'))) (hth : h' 20 0 = k) (hk : k = 0 → o' = b0.toInt64) (T : sm_T g' h') : mg_G p l e R s m args below meth c D mn_cl Z A H0 7 Q ad (mr_C tys ma_sh ad (ma_R g (rb_R h o))) [some (va_rf (some b)), some (va_rf (some (ad 0 0))), some (va_rf (some (ad 20 0))), some (va_rf (some (ad 40 0))), some (.int (Int32.ofNat i))] cells slots [] 666 := by
  refine mg_aload_n K md_W_law_666 rfl ?_
  refine mg_aload_n K md_W_law_667 rfl ?_
  refine mg_iload K md_W_law_668 rfl ?_
  refine mg_iconst K (v := 1) md_W_law_670 (by decide) ?_
  refine mg_iadd K md_W_law_671 ?_
  rw [show Int32.ofNat i + 1 = Int32.ofNat (i + 1) from mi_pl i 1]
  refine mg_sld (i := i + 1) K hX hbl hbA (by omega) hn md_W_law_672 ?_
  refine mg_aload_n K md_W_law_673 rfl ?_
  refine mg_iload K md_W_law_674 rfl ?_
  refine mg_iconst K (v := 2) md_W_law_676 (by decide) ?_
  refine mg_iadd K md_W_law_677 ?_
  rw [show Int32.ofNat i + 2 = Int32.ofNat (i + 2) from mi_pl i 2]
  refine mg_sld (i := i + 2) K hX hbl hbA (by omega) hn md_W_law_678 ?_
  refine mg_aload_n K md_W_law_679 rfl ?_
  refine mg_callSW (n := 4) K hA hW rfl rfl (by show 8 + 1 ≤ _; omega) (by show 8 + (5 + 11) + (30 * 8 + 60) ≤ _; omega) rfl ms_W_84.2.2 (mb 24 (by decide +kernel) rfl) ms_W_84.2.1 ms_W_84.1 (by decide) (by decide +kernel) md_W_law_680 rfl rfl (Nat.le_of_ble_eq_true rfl) ⟨hc, hs⟩ (fun r ad' C' hp => ?_)
  obtain ⟨rfl, had, rfl⟩ := hp
  rw [← had 0 0 Nat.zero_lt_one, ← had 20 0 Nat.zero_lt_one, ← had 40 0 Nat.zero_lt_one]
  refine mg_istore K md_W_law_683 (by decide) ?_
  refine mg_aload_n K md_W_law_685 rfl ?_
  refine mg_aload_n K md_W_law_686 rfl ?_
  refine mg_iload K md_W_law_687 rfl ?_
  refine mg_iconst K (v := 1) md_W_law_689 (by decide) ?_
  refine mg_iadd K md_W_law_690 ?_
  rw [show Int32.ofNat i + 1 = Int32.ofNat (i + 1) from mi_pl i 1]
  refine mg_sld (i := i + 1) K hX hbl hbA (by omega) hn md_W_law_691 ?_
  refine mg_aload_n K md_W_law_692 rfl ?_
  refine mg_iload K md_W_law_693 rfl ?_
  refine mg_iconst K (v := 2) md_W_law_695 (by decide) ?_
  refine mg_iadd K md_W_law_696 ?_
  rw [show Int32.ofNat i + 2 = Int32.ofNat (i + 2) from mi_pl i 2]
  refine mg_sld (i := i + 2) K hX hbl hbA (by omega) hn md_W_law_697 ?_
  refine mr_cV K hA (hB ad') ms_W_86 ⟨by omega, by omega⟩ md_W_law_698 rfl rfl Nat.zero_lt_one rfl (Nat.le_of_ble_eq_true rfl) ⟨by omega, by omega⟩ ?_
  refine mg_istore K md_W_law_701 (by decide) ?_
  refine mg_aload_n K md_W_law_703 rfl ?_
  refine mr_cV K hA (ct_B_thrown hty g' h' o') ms_W_50 ⟨by omega, by omega⟩ md_W_law_704 rfl rfl Nat.zero_lt_one rfl (Nat.le_of_ble_eq_true rfl) ⟨by omega, by omega⟩ ?_
  refine mg_iload K md_W_law_707 rfl ?_
  refine mg_icmp_eq K 714 md_W_law_709 rfl (fun _ => ?_) (fun hne => absurd hth hne)
  refine mg_iload K md_W_law_714 rfl ?_
  have fin : mg_G p l e R s m args below meth c D mn_cl Z A H0 7 Q ad' (mr_C tys ma_sh ad' (ma_R g' (rb_R h' o'))) [some (va_rf (some b)), some (va_rf (some (ad' 0 0))), some (va_rf (some (ad' 20 0))), some (va_rf (some (ad' 40 0))), some (.int (Int32.ofNat i)), some (.int k), some (.int b0)] (cells + 1) (slots + 8) [] 731 := by
    refine mg_goto K 846 md_W_law_731 rfl ?_
    refine mg_take 5 ?_
    exact kk ad' g' h' o' T
  refine mg_if_ne K 731 md_W_law_716 rfl (fun _ => fin) (fun h0 => ?_)
  refine mg_aload_n K md_W_law_719 rfl ?_
  refine mg_iconst K (v := 0) md_W_law_720 (by decide) ?_
  refine mr_lald (n := 1) (t0 := 5) K rfl (ma_t hty 5) md_W_law_721 Nat.zero_lt_one (mi_vn (x := 0) (by omega) (by omega)) ?_
  refine mg_iload K md_W_law_722 rfl ?_
  refine mg_i2l K md_W_law_724 ?_
  refine mg_lcmp K md_W_law_725 ?_
  refine mg_if_eq K 731 md_W_law_726 rfl (fun _ => fin) (fun hne => absurd ?_ hne)
  show lg_cmp o' b0.toInt64 = 0
  rw [hk h0]
  exact lg_cmp_0 _
end LW4
