/-! the law's helpers -/
theorem rb_sL (g : ca_S) (h : rb_S) (o y : Int64) : mr_sL (ma_R g (rb_R h o)) 40 0 0 y = ma_R g (rb_R h y) := by
  refine Prod.ext rfl (Prod.ext ?_ rfl)
  funext a b c
  show mr_u3 (ma_lv (rb_R h o)) 40 0 0 y a b c = ma_lv (rb_R h y) a b c
  by_cases hz : a = 40 ∧ b = 0 ∧ c = 0
  · obtain ⟨rfl, rfl, rfl⟩ := hz
    rw [mr_u3_s]
    rfl
  · rw [mr_u3_n _ _ _ _ _ hz]
    unfold ma_lv
    split
    · rfl
    · show (if a = 40 ∧ b = 0 ∧ c = 0 then o else 0) = if a = 40 ∧ b = 0 ∧ c = 0 then y else 0
      rw [if_neg hz, if_neg hz]
section LW1
variable {l : Launch} {D : va_G} {Z : Nat × Cell} {tys : List (ClassId × FieldType)} {ad : mg_Ad}
theorem ct_W_status (hty : tys.map (·.2) = ma_ty) {g g' : ca_S} {h : rb_S} {o : Int64} {x0 x1 v : Int32} {d : Nat} (hd : d ≤ 7) (hM : mr_M l my_A_status mc_A_status 4 (some .int) d D mn_cl Z mb_B tys ma_sh [va_rf (some (ad 0 0)), .int x0, .int x1] ad (ma_R g (rb_R h o)) (some (.int v)) (ma_R g' (rb_R h o))) : mg_M l my_W_status [Cond.codeWith my_W_status mc_W_status 5 (some .int) [(0, 10, 13, 13)]] (mg_rm 8 1 8) D mn_cl Z mb_B tys [va_rf (some (ad 0 0)), .int x0, .int x1, va_rf (some (ad 40 0))] ad (mr_C tys ma_sh ad (ma_R g (rb_R h o))) 1 8 (mg_PoA tys ma_sh ad (ma_R g (rb_R h o)) (some (.int 0)) (ma_R g' (rb_R h v.toInt64))) := by
  refine mg_M.ofW (cc := mc_W_status) (maxL := 5) (ret := some .int) (handlers := [(0, 10, 13, 13)]) (by decide) rfl (Nat.le_of_ble_eq_true rfl) (mg_caS rfl (mg_caS rfl (mg_caS rfl (mg_caS rfl mg_ca0)))) ?_
  intro p e s m args below meth c K hret hlk htab hA
  refine mg_aload_n K md_W_status_0 rfl ?_
  refine mg_iconst K (v := 0) md_W_status_1 (by decide) ?_
  refine mg_aload_n K md_W_status_2 rfl ?_
  refine mg_iload_n K md_W_status_3 rfl ?_
  refine mg_iload_n K md_W_status_4 rfl ?_
  refine mr_cV K hA hM ms_W_15 ⟨by show d + 1 ≤ 8; omega, by show 19 + _ + (30 * d + 60) ≤ 30 * 8 + 60; omega⟩ md_W_status_5 rfl rfl Nat.zero_lt_one rfl (Nat.le_of_ble_eq_true rfl) ⟨Nat.zero_le _, Nat.zero_le _⟩ ?_
  refine mg_i2l K md_W_status_8 ?_
  refine mr_last (n := 1) (t0 := 5) K rfl (ma_t hty 5) md_W_status_9 Nat.zero_lt_one (mi_vn (x := 0) (by omega) (by omega)) ?_
  refine mr_eqr (rb_sL _ _ _ _) ?_
  refine mg_goto K 17 md_W_status_10 rfl ?_
  refine mg_iconst K (v := 0) md_W_status_17 (by decide) ?_
  exact mg_iret K hret hlk md_W_status_18 (by decide) (by decide) ⟨rfl, fun _ _ _ => rfl, rfl⟩
theorem th_W_status (hty : tys.map (·.2) = ma_ty) {g : ca_S} {h : rb_S} {o : Int64} {x0 x1 : Int32} (hM : mg_T l my_A_status [Cond.code my_A_status mc_A_status 4 (some .int)] (mg_rm 7 1 6) D mn_cl Z mb_B tys [va_rf (some (ad 0 0)), .int x0, .int x1] ad (mr_C tys ma_sh ad (ma_R g (rb_R h o))) "java/lang/IllegalArgumentException") : mg_M l my_W_status [Cond.codeWith my_W_status mc_W_status 5 (some .int) [(0, 10, 13, 13)]] (mg_rm 8 1 8) D mn_cl Z mb_B tys [va_rf (some (ad 0 0)), .int x0, .int x1, va_rf (some (ad 40 0))] ad (mr_C tys ma_sh ad (ma_R g (rb_R h o))) 1 8 (mg_PoA tys ma_sh ad (ma_R g (rb_R h o)) (some (.int 1)) (ma_R g (rb_R h o))) := by
  refine mg_M.ofW (cc := mc_W_status) (maxL := 5) (ret := some .int) (handlers := [(0, 10, 13, 13)]) (by decide) rfl (Nat.le_of_ble_eq_true rfl) (mg_caS rfl (mg_caS rfl (mg_caS rfl (mg_caS rfl mg_ca0)))) ?_
  intro p e s m args below meth c K hret hlk htab hA
  refine mg_aload_n K md_W_status_0 rfl ?_
  refine mg_iconst K (v := 0) md_W_status_1 (by decide) ?_
  refine mg_aload_n K md_W_status_2 rfl ?_
  refine mg_iload_n K md_W_status_3 rfl ?_
  refine mg_iload_n K md_W_status_4 rfl ?_
  refine mg_catchV (k := 0) (i := 0) (nm := "java/lang/IllegalArgumentException") K hA hM ⟨ms_W_15.1.b K ⟨by decide, by decide⟩ ms_W_15.2.1, K.1.2.2.2.2 _ ms_W_15.2.2.1, K.1.2.2.2.2 _ ms_W_15.2.2.2⟩ md_W_status_5 rfl (mr_obj rfl Nat.zero_lt_one) rfl rfl (Nat.le_of_ble_eq_true rfl) ⟨by decide, by decide⟩ htab ⟨by decide, by decide⟩ (by decide) (mb 193 (by decide +kernel) rfl) (mb 203 (by decide +kernel) rfl) (fun q => ?_)
  refine mg_astore K md_W_status_13 (by decide) ?_
  refine mg_iconst K (v := 1) md_W_status_15 (by decide) ?_
  exact mg_iret K hret hlk md_W_status_16 (by decide) (by decide) ⟨rfl, fun _ _ _ => rfl, rfl⟩
theorem ct_W_answer (hty : tys.map (·.2) = ma_ty) {g g' : ca_S} {h : rb_S} {o : Int64} {x0 x1 v : Int32} {d : Nat} (hd : d ≤ 7) (hM : mr_M l my_A_answer mc_A_answer 4 (some .int) d D mn_cl Z mb_B tys ma_sh [va_rf (some (ad 0 0)), .int x0, .int x1] ad (ma_R g (rb_R h o)) (some (.int v)) (ma_R g' (rb_R h o))) : mg_M l my_W_answer [Cond.codeWith my_W_answer mc_W_answer 5 (some .int) [(0, 10, 13, 13)]] (mg_rm 8 1 8) D mn_cl Z mb_B tys [va_rf (some (ad 0 0)), .int x0, .int x1, va_rf (some (ad 40 0))] ad (mr_C tys ma_sh ad (ma_R g (rb_R h o))) 1 8 (mg_PoA tys ma_sh ad (ma_R g (rb_R h o)) (some (.int 0)) (ma_R g' (rb_R h v.toInt64))) := by
  refine mg_M.ofW (cc := mc_W_answer) (maxL := 5) (ret := some .int) (handlers := [(0, 10, 13, 13)]) (by decide) rfl (Nat.le_of_ble_eq_true rfl) (mg_caS rfl (mg_caS rfl (mg_caS rfl (mg_caS rfl mg_ca0)))) ?_
  intro p e s m args below meth c K hret hlk htab hA
  refine mg_aload_n K md_W_answer_0 rfl ?_
  refine mg_iconst K (v := 0) md_W_answer_1 (by decide) ?_
  refine mg_aload_n K md_W_answer_2 rfl ?_
  refine mg_iload_n K md_W_answer_3 rfl ?_
  refine mg_iload_n K md_W_answer_4 rfl ?_
  refine mr_cV K hA hM ms_W_19 ⟨by show d + 1 ≤ 8; omega, by show 19 + _ + (30 * d + 60) ≤ 30 * 8 + 60; omega⟩ md_W_answer_5 rfl rfl Nat.zero_lt_one rfl (Nat.le_of_ble_eq_true rfl) ⟨Nat.zero_le _, Nat.zero_le _⟩ ?_
  refine mg_i2l K md_W_answer_8 ?_
  refine mr_last (n := 1) (t0 := 5) K rfl (ma_t hty 5) md_W_answer_9 Nat.zero_lt_one (mi_vn (x := 0) (by omega) (by omega)) ?_
  refine mr_eqr (rb_sL _ _ _ _) ?_
  refine mg_goto K 17 md_W_answer_10 rfl ?_
  refine mg_iconst K (v := 0) md_W_answer_17 (by decide) ?_
  exact mg_iret K hret hlk md_W_answer_18 (by decide) (by decide) ⟨rfl, fun _ _ _ => rfl, rfl⟩
theorem th_W_answer (hty : tys.map (·.2) = ma_ty) {g : ca_S} {h : rb_S} {o : Int64} {x0 x1 : Int32} (hM : mg_T l my_A_answer [Cond.code my_A_answer mc_A_answer 4 (some .int)] (mg_rm 7 1 6) D mn_cl Z mb_B tys [va_rf (some (ad 0 0)), .int x0, .int x1] ad (mr_C tys ma_sh ad (ma_R g (rb_R h o))) "java/lang/IllegalArgumentException") : mg_M l my_W_answer [Cond.codeWith my_W_answer mc_W_answer 5 (some .int) [(0, 10, 13, 13)]] (mg_rm 8 1 8) D mn_cl Z mb_B tys [va_rf (some (ad 0 0)), .int x0, .int x1, va_rf (some (ad 40 0))] ad (mr_C tys ma_sh ad (ma_R g (rb_R h o))) 1 8 (mg_PoA tys ma_sh ad (ma_R g (rb_R h o)) (some (.int 1)) (ma_R g (rb_R h o))) := by
  refine mg_M.ofW (cc := mc_W_answer) (maxL := 5) (ret := some .int) (handlers := [(0, 10, 13, 13)]) (by decide) rfl (Nat.le_of_ble_eq_true rfl) (mg_caS rfl (mg_caS rfl (mg_caS rfl (mg_caS rfl mg_ca0)))) ?_
  intro p e s m args below meth c K hret hlk htab hA
  refine mg_aload_n K md_W_answer_0 rfl ?_
  refine mg_iconst K (v := 0) md_W_answer_1 (by decide) ?_
  refine mg_aload_n K md_W_answer_2 rfl ?_
  refine mg_iload_n K md_W_answer_3 rfl ?_
  refine mg_iload_n K md_W_answer_4 rfl ?_
  refine mg_catchV (k := 0) (i := 0) (nm := "java/lang/IllegalArgumentException") K hA hM ⟨ms_W_19.1.b K ⟨by decide, by decide⟩ ms_W_19.2.1, K.1.2.2.2.2 _ ms_W_19.2.2.1, K.1.2.2.2.2 _ ms_W_19.2.2.2⟩ md_W_answer_5 rfl (mr_obj rfl Nat.zero_lt_one) rfl rfl (Nat.le_of_ble_eq_true rfl) ⟨by decide, by decide⟩ htab ⟨by decide, by decide⟩ (by decide) (mb 193 (by decide +kernel) rfl) (mb 203 (by decide +kernel) rfl) (fun q => ?_)
  refine mg_astore K md_W_answer_13 (by decide) ?_
  refine mg_iconst K (v := 1) md_W_answer_15 (by decide) ?_
  exact mg_iret K hret hlk md_W_answer_16 (by decide) (by decide) ⟨rfl, fun _ _ _ => rfl, rfl⟩
theorem ct_W_tick (hty : tys.map (·.2) = ma_ty) {g g' : ca_S} {h : rb_S} {o : Int64} {x0 v : Int32} {d : Nat} (hd : d ≤ 7) (hM : mr_M l my_A_tick mc_A_tick 3 (some .int) d D mn_cl Z mb_B tys ma_sh [va_rf (some (ad 0 0)), .int x0] ad (ma_R g (rb_R h o)) (some (.int v)) (ma_R g' (rb_R h o))) : mg_M l my_W_tick [Cond.codeWith my_W_tick mc_W_tick 4 (some .int) [(0, 9, 12, 13)]] (mg_rm 8 1 8) D mn_cl Z mb_B tys [va_rf (some (ad 0 0)), .int x0, va_rf (some (ad 40 0))] ad (mr_C tys ma_sh ad (ma_R g (rb_R h o))) 1 8 (mg_PoA tys ma_sh ad (ma_R g (rb_R h o)) (some (.int 0)) (ma_R g' (rb_R h v.toInt64))) := by
  refine mg_M.ofW (cc := mc_W_tick) (maxL := 4) (ret := some .int) (handlers := [(0, 9, 12, 13)]) (by decide) rfl (Nat.le_of_ble_eq_true rfl) (mg_caS rfl (mg_caS rfl (mg_caS rfl mg_ca0))) ?_
  intro p e s m args below meth c K hret hlk htab hA
  refine mg_aload_n K md_W_tick_0 rfl ?_
  refine mg_iconst K (v := 0) md_W_tick_1 (by decide) ?_
  refine mg_aload_n K md_W_tick_2 rfl ?_
  refine mg_iload_n K md_W_tick_3 rfl ?_
  refine mr_cV K hA hM ms_W_22 ⟨by show d + 1 ≤ 8; omega, by show 19 + _ + (30 * d + 60) ≤ 30 * 8 + 60; omega⟩ md_W_tick_4 rfl rfl Nat.zero_lt_one rfl (Nat.le_of_ble_eq_true rfl) ⟨Nat.zero_le _, Nat.zero_le _⟩ ?_
  refine mg_i2l K md_W_tick_7 ?_
  refine mr_last (n := 1) (t0 := 5) K rfl (ma_t hty 5) md_W_tick_8 Nat.zero_lt_one (mi_vn (x := 0) (by omega) (by omega)) ?_
  refine mr_eqr (rb_sL _ _ _ _) ?_
  refine mg_goto K 15 md_W_tick_9 rfl ?_
  refine mg_iconst K (v := 0) md_W_tick_15 (by decide) ?_
  exact mg_iret K hret hlk md_W_tick_16 (by decide) (by decide) ⟨rfl, fun _ _ _ => rfl, rfl⟩
theorem th_W_tick (hty : tys.map (·.2) = ma_ty) {g : ca_S} {h : rb_S} {o : Int64} {x0 : Int32} (hM : mg_T l my_A_tick [Cond.code my_A_tick mc_A_tick 3 (some .int)] (mg_rm 7 1 6) D mn_cl Z mb_B tys [va_rf (some (ad 0 0)), .int x0] ad (mr_C tys ma_sh ad (ma_R g (rb_R h o))) "java/lang/IllegalArgumentException") : mg_M l my_W_tick [Cond.codeWith my_W_tick mc_W_tick 4 (some .int) [(0, 9, 12, 13)]] (mg_rm 8 1 8) D mn_cl Z mb_B tys [va_rf (some (ad 0 0)), .int x0, va_rf (some (ad 40 0))] ad (mr_C tys ma_sh ad (ma_R g (rb_R h o))) 1 8 (mg_PoA tys ma_sh ad (ma_R g (rb_R h o)) (some (.int 1)) (ma_R g (rb_R h o))) := by
  refine mg_M.ofW (cc := mc_W_tick) (maxL := 4) (ret := some .int) (handlers := [(0, 9, 12, 13)]) (by decide) rfl (Nat.le_of_ble_eq_true rfl) (mg_caS rfl (mg_caS rfl (mg_caS rfl mg_ca0))) ?_
  intro p e s m args below meth c K hret hlk htab hA
  refine mg_aload_n K md_W_tick_0 rfl ?_
  refine mg_iconst K (v := 0) md_W_tick_1 (by decide) ?_
  refine mg_aload_n K md_W_tick_2 rfl ?_
  refine mg_iload_n K md_W_tick_3 rfl ?_
  refine mg_catchV (k := 0) (i := 0) (nm := "java/lang/IllegalArgumentException") K hA hM ⟨ms_W_22.1.b K ⟨by decide, by decide⟩ ms_W_22.2.1, K.1.2.2.2.2 _ ms_W_22.2.2.1, K.1.2.2.2.2 _ ms_W_22.2.2.2⟩ md_W_tick_4 rfl (mr_obj rfl Nat.zero_lt_one) rfl rfl (Nat.le_of_ble_eq_true rfl) ⟨by decide, by decide⟩ htab ⟨by decide, by decide⟩ (by decide) (mb 193 (by decide +kernel) rfl) (mb 203 (by decide +kernel) rfl) (fun q => ?_)
  refine mg_astore_n K md_W_tick_12 (by decide) ?_
  refine mg_iconst K (v := 1) md_W_tick_13 (by decide) ?_
  exact mg_iret K hret hlk md_W_tick_14 (by decide) (by decide) ⟨rfl, fun _ _ _ => rfl, rfl⟩
theorem ct_W_skip (hty : tys.map (·.2) = ma_ty) {g g' : ca_S} {h : rb_S} {o : Int64} {x0 v : Int32} {d : Nat} (hd : d ≤ 7) (hM : mr_M l my_A_skip mc_A_skip 4 (some .int) d D mn_cl Z mb_B tys ma_sh [va_rf (some (ad 0 0)), .int x0] ad (ma_R g (rb_R h o)) (some (.int v)) (ma_R g' (rb_R h o))) : mg_M l my_W_skip [Cond.codeWith my_W_skip mc_W_skip 4 (some .int) [(0, 9, 12, 13)]] (mg_rm 8 1 8) D mn_cl Z mb_B tys [va_rf (some (ad 0 0)), .int x0, va_rf (some (ad 40 0))] ad (mr_C tys ma_sh ad (ma_R g (rb_R h o))) 1 8 (mg_PoA tys ma_sh ad (ma_R g (rb_R h o)) (some (.int 0)) (ma_R g' (rb_R h v.toInt64))) := by
  refine mg_M.ofW (cc := mc_W_skip) (maxL := 4) (ret := some .int) (handlers := [(0, 9, 12, 13)]) (by decide) rfl (Nat.le_of_ble_eq_true rfl) (mg_caS rfl (mg_caS rfl (mg_caS rfl mg_ca0))) ?_
  intro p e s m args below meth c K hret hlk htab hA
  refine mg_aload_n K md_W_skip_0 rfl ?_
  refine mg_iconst K (v := 0) md_W_skip_1 (by decide) ?_
  refine mg_aload_n K md_W_skip_2 rfl ?_
  refine mg_iload_n K md_W_skip_3 rfl ?_
  refine mr_cV K hA hM ms_W_26 ⟨by show d + 1 ≤ 8; omega, by show 19 + _ + (30 * d + 60) ≤ 30 * 8 + 60; omega⟩ md_W_skip_4 rfl rfl Nat.zero_lt_one rfl (Nat.le_of_ble_eq_true rfl) ⟨Nat.zero_le _, Nat.zero_le _⟩ ?_
  refine mg_i2l K md_W_skip_7 ?_
  refine mr_last (n := 1) (t0 := 5) K rfl (ma_t hty 5) md_W_skip_8 Nat.zero_lt_one (mi_vn (x := 0) (by omega) (by omega)) ?_
  refine mr_eqr (rb_sL _ _ _ _) ?_
  refine mg_goto K 15 md_W_skip_9 rfl ?_
  refine mg_iconst K (v := 0) md_W_skip_15 (by decide) ?_
  exact mg_iret K hret hlk md_W_skip_16 (by decide) (by decide) ⟨rfl, fun _ _ _ => rfl, rfl⟩
theorem th_W_skip (hty : tys.map (·.2) = ma_ty) {g : ca_S} {h : rb_S} {o : Int64} {x0 : Int32} (hM : mg_T l my_A_skip [Cond.code my_A_skip mc_A_skip 4 (some .int)] (mg_rm 7 1 6) D mn_cl Z mb_B tys [va_rf (some (ad 0 0)), .int x0] ad (mr_C tys ma_sh ad (ma_R g (rb_R h o))) "java/lang/IllegalArgumentException") : mg_M l my_W_skip [Cond.codeWith my_W_skip mc_W_skip 4 (some .int) [(0, 9, 12, 13)]] (mg_rm 8 1 8) D mn_cl Z mb_B tys [va_rf (some (ad 0 0)), .int x0, va_rf (some (ad 40 0))] ad (mr_C tys ma_sh ad (ma_R g (rb_R h o))) 1 8 (mg_PoA tys ma_sh ad (ma_R g (rb_R h o)) (some (.int 1)) (ma_R g (rb_R h o))) := by
  refine mg_M.ofW (cc := mc_W_skip) (maxL := 4) (ret := some .int) (handlers := [(0, 9, 12, 13)]) (by decide) rfl (Nat.le_of_ble_eq_true rfl) (mg_caS rfl (mg_caS rfl (mg_caS rfl mg_ca0))) ?_
  intro p e s m args below meth c K hret hlk htab hA
  refine mg_aload_n K md_W_skip_0 rfl ?_
  refine mg_iconst K (v := 0) md_W_skip_1 (by decide) ?_
  refine mg_aload_n K md_W_skip_2 rfl ?_
  refine mg_iload_n K md_W_skip_3 rfl ?_
  refine mg_catchV (k := 0) (i := 0) (nm := "java/lang/IllegalArgumentException") K hA hM ⟨ms_W_26.1.b K ⟨by decide, by decide⟩ ms_W_26.2.1, K.1.2.2.2.2 _ ms_W_26.2.2.1, K.1.2.2.2.2 _ ms_W_26.2.2.2⟩ md_W_skip_4 rfl (mr_obj rfl Nat.zero_lt_one) rfl rfl (Nat.le_of_ble_eq_true rfl) ⟨by decide, by decide⟩ htab ⟨by decide, by decide⟩ (by decide) (mb 193 (by decide +kernel) rfl) (mb 203 (by decide +kernel) rfl) (fun q => ?_)
  refine mg_astore_n K md_W_skip_12 (by decide) ?_
  refine mg_iconst K (v := 1) md_W_skip_13 (by decide) ?_
  exact mg_iret K hret hlk md_W_skip_14 (by decide) (by decide) ⟨rfl, fun _ _ _ => rfl, rfl⟩
theorem ct_W_cut (hty : tys.map (·.2) = ma_ty) {g g' : ca_S} {h : rb_S} {o : Int64} {x0 v : Int32} {d : Nat} (hd : d ≤ 7) (hM : mr_M l my_A_cut mc_A_cut 2 (some .int) d D mn_cl Z mb_B tys ma_sh [va_rf (some (ad 0 0)), .int x0] ad (ma_R g (rb_R h o)) (some (.int v)) (ma_R g' (rb_R h o))) : mg_M l my_W_cut [Cond.codeWith my_W_cut mc_W_cut 4 (some .int) [(0, 9, 12, 13)]] (mg_rm 8 1 8) D mn_cl Z mb_B tys [va_rf (some (ad 0 0)), .int x0, va_rf (some (ad 40 0))] ad (mr_C tys ma_sh ad (ma_R g (rb_R h o))) 1 8 (mg_PoA tys ma_sh ad (ma_R g (rb_R h o)) (some (.int 0)) (ma_R g' (rb_R h v.toInt64))) := by
  refine mg_M.ofW (cc := mc_W_cut) (maxL := 4) (ret := some .int) (handlers := [(0, 9, 12, 13)]) (by decide) rfl (Nat.le_of_ble_eq_true rfl) (mg_caS rfl (mg_caS rfl (mg_caS rfl mg_ca0))) ?_
  intro p e s m args below meth c K hret hlk htab hA
  refine mg_aload_n K md_W_cut_0 rfl ?_
  refine mg_iconst K (v := 0) md_W_cut_1 (by decide) ?_
  refine mg_aload_n K md_W_cut_2 rfl ?_
  refine mg_iload_n K md_W_cut_3 rfl ?_
  refine mr_cV K hA hM ms_W_29 ⟨by show d + 1 ≤ 8; omega, by show 19 + _ + (30 * d + 60) ≤ 30 * 8 + 60; omega⟩ md_W_cut_4 rfl rfl Nat.zero_lt_one rfl (Nat.le_of_ble_eq_true rfl) ⟨Nat.zero_le _, Nat.zero_le _⟩ ?_
  refine mg_i2l K md_W_cut_7 ?_
  refine mr_last (n := 1) (t0 := 5) K rfl (ma_t hty 5) md_W_cut_8 Nat.zero_lt_one (mi_vn (x := 0) (by omega) (by omega)) ?_
  refine mr_eqr (rb_sL _ _ _ _) ?_
  refine mg_goto K 15 md_W_cut_9 rfl ?_
  refine mg_iconst K (v := 0) md_W_cut_15 (by decide) ?_
  exact mg_iret K hret hlk md_W_cut_16 (by decide) (by decide) ⟨rfl, fun _ _ _ => rfl, rfl⟩
theorem th_W_cut (hty : tys.map (·.2) = ma_ty) {g : ca_S} {h : rb_S} {o : Int64} {x0 : Int32} (hM : mg_T l my_A_cut [Cond.code my_A_cut mc_A_cut 2 (some .int)] (mg_rm 7 1 6) D mn_cl Z mb_B tys [va_rf (some (ad 0 0)), .int x0] ad (mr_C tys ma_sh ad (ma_R g (rb_R h o))) "java/lang/IllegalArgumentException") : mg_M l my_W_cut [Cond.codeWith my_W_cut mc_W_cut 4 (some .int) [(0, 9, 12, 13)]] (mg_rm 8 1 8) D mn_cl Z mb_B tys [va_rf (some (ad 0 0)), .int x0, va_rf (some (ad 40 0))] ad (mr_C tys ma_sh ad (ma_R g (rb_R h o))) 1 8 (mg_PoA tys ma_sh ad (ma_R g (rb_R h o)) (some (.int 1)) (ma_R g (rb_R h o))) := by
  refine mg_M.ofW (cc := mc_W_cut) (maxL := 4) (ret := some .int) (handlers := [(0, 9, 12, 13)]) (by decide) rfl (Nat.le_of_ble_eq_true rfl) (mg_caS rfl (mg_caS rfl (mg_caS rfl mg_ca0))) ?_
  intro p e s m args below meth c K hret hlk htab hA
  refine mg_aload_n K md_W_cut_0 rfl ?_
  refine mg_iconst K (v := 0) md_W_cut_1 (by decide) ?_
  refine mg_aload_n K md_W_cut_2 rfl ?_
  refine mg_iload_n K md_W_cut_3 rfl ?_
  refine mg_catchV (k := 0) (i := 0) (nm := "java/lang/IllegalArgumentException") K hA hM ⟨ms_W_29.1.b K ⟨by decide, by decide⟩ ms_W_29.2.1, K.1.2.2.2.2 _ ms_W_29.2.2.1, K.1.2.2.2.2 _ ms_W_29.2.2.2⟩ md_W_cut_4 rfl (mr_obj rfl Nat.zero_lt_one) rfl rfl (Nat.le_of_ble_eq_true rfl) ⟨by decide, by decide⟩ htab ⟨by decide, by decide⟩ (by decide) (mb 193 (by decide +kernel) rfl) (mb 203 (by decide +kernel) rfl) (fun q => ?_)
  refine mg_astore_n K md_W_cut_12 (by decide) ?_
  refine mg_iconst K (v := 1) md_W_cut_13 (by decide) ?_
  exact mg_iret K hret hlk md_W_cut_14 (by decide) (by decide) ⟨rfl, fun _ _ _ => rfl, rfl⟩
theorem ct_W_replay (hty : tys.map (·.2) = ma_ty) {g g' : ca_S} {h : rb_S} {o : Int64} {x0 x1 v : Int32} {d : Nat} (hd : d ≤ 7) (hM : mr_M l my_A_replay mc_A_replay 7 (some .int) d D mn_cl Z mb_B tys ma_sh [va_rf (some (ad 0 0)), .int x0, .int x1] ad (ma_R g (rb_R h o)) (some (.int v)) (ma_R g' (rb_R h o))) : mg_M l my_W_replay [Cond.codeWith my_W_replay mc_W_replay 5 (some .int) [(0, 10, 13, 13)]] (mg_rm 8 1 8) D mn_cl Z mb_B tys [va_rf (some (ad 0 0)), .int x0, .int x1, va_rf (some (ad 40 0))] ad (mr_C tys ma_sh ad (ma_R g (rb_R h o))) 1 8 (mg_PoA tys ma_sh ad (ma_R g (rb_R h o)) (some (.int 0)) (ma_R g' (rb_R h v.toInt64))) := by
  refine mg_M.ofW (cc := mc_W_replay) (maxL := 5) (ret := some .int) (handlers := [(0, 10, 13, 13)]) (by decide) rfl (Nat.le_of_ble_eq_true rfl) (mg_caS rfl (mg_caS rfl (mg_caS rfl (mg_caS rfl mg_ca0)))) ?_
  intro p e s m args below meth c K hret hlk htab hA
  refine mg_aload_n K md_W_replay_0 rfl ?_
  refine mg_iconst K (v := 0) md_W_replay_1 (by decide) ?_
  refine mg_aload_n K md_W_replay_2 rfl ?_
  refine mg_iload_n K md_W_replay_3 rfl ?_
  refine mg_iload_n K md_W_replay_4 rfl ?_
  refine mr_cV K hA hM ms_W_32 ⟨by show d + 1 ≤ 8; omega, by show 19 + _ + (30 * d + 60) ≤ 30 * 8 + 60; omega⟩ md_W_replay_5 rfl rfl Nat.zero_lt_one rfl (Nat.le_of_ble_eq_true rfl) ⟨Nat.zero_le _, Nat.zero_le _⟩ ?_
  refine mg_i2l K md_W_replay_8 ?_
  refine mr_last (n := 1) (t0 := 5) K rfl (ma_t hty 5) md_W_replay_9 Nat.zero_lt_one (mi_vn (x := 0) (by omega) (by omega)) ?_
  refine mr_eqr (rb_sL _ _ _ _) ?_
  refine mg_goto K 17 md_W_replay_10 rfl ?_
  refine mg_iconst K (v := 0) md_W_replay_17 (by decide) ?_
  exact mg_iret K hret hlk md_W_replay_18 (by decide) (by decide) ⟨rfl, fun _ _ _ => rfl, rfl⟩
theorem th_W_replay (hty : tys.map (·.2) = ma_ty) {g : ca_S} {h : rb_S} {o : Int64} {x0 x1 : Int32} (hM : mg_T l my_A_replay [Cond.code my_A_replay mc_A_replay 7 (some .int)] (mg_rm 7 1 6) D mn_cl Z mb_B tys [va_rf (some (ad 0 0)), .int x0, .int x1] ad (mr_C tys ma_sh ad (ma_R g (rb_R h o))) "java/lang/IllegalArgumentException") : mg_M l my_W_replay [Cond.codeWith my_W_replay mc_W_replay 5 (some .int) [(0, 10, 13, 13)]] (mg_rm 8 1 8) D mn_cl Z mb_B tys [va_rf (some (ad 0 0)), .int x0, .int x1, va_rf (some (ad 40 0))] ad (mr_C tys ma_sh ad (ma_R g (rb_R h o))) 1 8 (mg_PoA tys ma_sh ad (ma_R g (rb_R h o)) (some (.int 1)) (ma_R g (rb_R h o))) := by
  refine mg_M.ofW (cc := mc_W_replay) (maxL := 5) (ret := some .int) (handlers := [(0, 10, 13, 13)]) (by decide) rfl (Nat.le_of_ble_eq_true rfl) (mg_caS rfl (mg_caS rfl (mg_caS rfl (mg_caS rfl mg_ca0)))) ?_
  intro p e s m args below meth c K hret hlk htab hA
  refine mg_aload_n K md_W_replay_0 rfl ?_
  refine mg_iconst K (v := 0) md_W_replay_1 (by decide) ?_
  refine mg_aload_n K md_W_replay_2 rfl ?_
  refine mg_iload_n K md_W_replay_3 rfl ?_
  refine mg_iload_n K md_W_replay_4 rfl ?_
  refine mg_catchV (k := 0) (i := 0) (nm := "java/lang/IllegalArgumentException") K hA hM ⟨ms_W_32.1.b K ⟨by decide, by decide⟩ ms_W_32.2.1, K.1.2.2.2.2 _ ms_W_32.2.2.1, K.1.2.2.2.2 _ ms_W_32.2.2.2⟩ md_W_replay_5 rfl (mr_obj rfl Nat.zero_lt_one) rfl rfl (Nat.le_of_ble_eq_true rfl) ⟨by decide, by decide⟩ htab ⟨by decide, by decide⟩ (by decide) (mb 193 (by decide +kernel) rfl) (mb 203 (by decide +kernel) rfl) (fun q => ?_)
  refine mg_astore K md_W_replay_13 (by decide) ?_
  refine mg_iconst K (v := 1) md_W_replay_15 (by decide) ?_
  exact mg_iret K hret hlk md_W_replay_16 (by decide) (by decide) ⟨rfl, fun _ _ _ => rfl, rfl⟩
theorem ct_W_look (hty : tys.map (·.2) = ma_ty) {g g' : ca_S} {h : rb_S} {o : Int64} {x0 x1 v : Int32} {d : Nat} (hd : d ≤ 7) (hM : mr_M l my_A_look mc_A_look 4 (some .int) d D mn_cl Z mb_B tys ma_sh [va_rf (some (ad 0 0)), .int x0, .int x1] ad (ma_R g (rb_R h o)) (some (.int v)) (ma_R g' (rb_R h o))) : mg_M l my_W_look [Cond.codeWith my_W_look mc_W_look 5 (some .int) [(0, 10, 13, 38)]] (mg_rm 8 1 8) D mn_cl Z mb_B tys [va_rf (some (ad 0 0)), .int x0, .int x1, va_rf (some (ad 40 0))] ad (mr_C tys ma_sh ad (ma_R g (rb_R h o))) 1 8 (mg_PoA tys ma_sh ad (ma_R g (rb_R h o)) (some (.int 0)) (ma_R g' (rb_R h v.toInt64))) := by
  refine mg_M.ofW (cc := mc_W_look) (maxL := 5) (ret := some .int) (handlers := [(0, 10, 13, 38)]) (by decide) rfl (Nat.le_of_ble_eq_true rfl) (mg_caS rfl (mg_caS rfl (mg_caS rfl (mg_caS rfl mg_ca0)))) ?_
  intro p e s m args below meth c K hret hlk htab hA
  refine mg_aload_n K md_W_look_0 rfl ?_
  refine mg_iconst K (v := 0) md_W_look_1 (by decide) ?_
  refine mg_aload_n K md_W_look_2 rfl ?_
  refine mg_iload_n K md_W_look_3 rfl ?_
  refine mg_iload_n K md_W_look_4 rfl ?_
  refine mr_cV K hA hM ms_W_35 ⟨by show d + 1 ≤ 8; omega, by show 19 + _ + (30 * d + 60) ≤ 30 * 8 + 60; omega⟩ md_W_look_5 rfl rfl Nat.zero_lt_one rfl (Nat.le_of_ble_eq_true rfl) ⟨Nat.zero_le _, Nat.zero_le _⟩ ?_
  refine mg_i2l K md_W_look_8 ?_
  refine mr_last (n := 1) (t0 := 5) K rfl (ma_t hty 5) md_W_look_9 Nat.zero_lt_one (mi_vn (x := 0) (by omega) (by omega)) ?_
  refine mr_eqr (rb_sL _ _ _ _) ?_
  refine mg_goto K 17 md_W_look_10 rfl ?_
  refine mg_iconst K (v := 0) md_W_look_17 (by decide) ?_
  exact mg_iret K hret hlk md_W_look_18 (by decide) (by decide) ⟨rfl, fun _ _ _ => rfl, rfl⟩
theorem th_W_look (hty : tys.map (·.2) = ma_ty) {g : ca_S} {h : rb_S} {o : Int64} {x0 x1 : Int32} (hM : mg_T l my_A_look [Cond.code my_A_look mc_A_look 4 (some .int)] (mg_rm 7 1 6) D mn_cl Z mb_B tys [va_rf (some (ad 0 0)), .int x0, .int x1] ad (mr_C tys ma_sh ad (ma_R g (rb_R h o))) "java/lang/IndexOutOfBoundsException") : mg_M l my_W_look [Cond.codeWith my_W_look mc_W_look 5 (some .int) [(0, 10, 13, 38)]] (mg_rm 8 1 8) D mn_cl Z mb_B tys [va_rf (some (ad 0 0)), .int x0, .int x1, va_rf (some (ad 40 0))] ad (mr_C tys ma_sh ad (ma_R g (rb_R h o))) 1 8 (mg_PoA tys ma_sh ad (ma_R g (rb_R h o)) (some (.int 1)) (ma_R g (rb_R h o))) := by
  refine mg_M.ofW (cc := mc_W_look) (maxL := 5) (ret := some .int) (handlers := [(0, 10, 13, 38)]) (by decide) rfl (Nat.le_of_ble_eq_true rfl) (mg_caS rfl (mg_caS rfl (mg_caS rfl (mg_caS rfl mg_ca0)))) ?_
  intro p e s m args below meth c K hret hlk htab hA
  refine mg_aload_n K md_W_look_0 rfl ?_
  refine mg_iconst K (v := 0) md_W_look_1 (by decide) ?_
  refine mg_aload_n K md_W_look_2 rfl ?_
  refine mg_iload_n K md_W_look_3 rfl ?_
  refine mg_iload_n K md_W_look_4 rfl ?_
  refine mg_catchV (k := 0) (i := 0) (nm := "java/lang/IndexOutOfBoundsException") K hA hM ⟨ms_W_35.1.b K ⟨by decide, by decide⟩ ms_W_35.2.1, K.1.2.2.2.2 _ ms_W_35.2.2.1, K.1.2.2.2.2 _ ms_W_35.2.2.2⟩ md_W_look_5 rfl (mr_obj rfl Nat.zero_lt_one) rfl rfl (Nat.le_of_ble_eq_true rfl) ⟨by decide, by decide⟩ htab ⟨by decide, by decide⟩ (by decide) (mb 445 (by decide +kernel) rfl) (mb 452 (by decide +kernel) rfl) (fun q => ?_)
  refine mg_astore K md_W_look_13 (by decide) ?_
  refine mg_iconst K (v := 1) md_W_look_15 (by decide) ?_
  exact mg_iret K hret hlk md_W_look_16 (by decide) (by decide) ⟨rfl, fun _ _ _ => rfl, rfl⟩
theorem ct_W_receive (hty : tys.map (·.2) = ma_ty) {g g' : ca_S} {h : rb_S} {o : Int64} {x0 x1 x2 x3 x4 v : Int32} (hM : mr_MA l my_A_receive mc_A_receive 8 (some .int) 7 1 8 D mn_cl Z mb_B tys ma_sh [va_rf (some (ad 0 0)), .int x0, .int x1, .int x2, .int x3, .int x4] ad (ma_R g (rb_R h o)) (some (.int v)) (ma_R g' (rb_R h o))) : mg_M l my_W_receive [Cond.codeWith my_W_receive mc_W_receive 8 (some .int) [(0, 16, 19, 13)]] (mg_rm 8 1 8) D mn_cl Z mb_B tys [va_rf (some (ad 0 0)), .int x0, .int x1, .int x2, .int x3, .int x4, va_rf (some (ad 40 0))] ad (mr_C tys ma_sh ad (ma_R g (rb_R h o))) 1 8 (mg_PoA tys ma_sh ad (ma_R g (rb_R h o)) (some (.int 0)) (ma_R g' (rb_R h v.toInt64))) := by
  refine mg_M.ofW (cc := mc_W_receive) (maxL := 8) (ret := some .int) (handlers := [(0, 16, 19, 13)]) (by decide) rfl (Nat.le_of_ble_eq_true rfl) (mg_caS rfl (mg_caS rfl (mg_caS rfl (mg_caS rfl (mg_caS rfl (mg_caS rfl (mg_caS rfl mg_ca0))))))) ?_
  intro p e s m args below meth c K hret hlk htab hA
  refine mg_aload K md_W_receive_0 rfl ?_
  refine mg_iconst K (v := 0) md_W_receive_2 (by decide) ?_
  refine mg_aload_n K md_W_receive_3 rfl ?_
  refine mg_iload_n K md_W_receive_4 rfl ?_
  refine mg_iload_n K md_W_receive_5 rfl ?_
  refine mg_iload_n K md_W_receive_6 rfl ?_
  refine mg_iload K md_W_receive_7 rfl ?_
  refine mg_iload K md_W_receive_9 rfl ?_
  refine mr_cVA K hA hM ms_W_7 (by decide) md_W_receive_11 rfl rfl Nat.zero_lt_one rfl (Nat.le_of_ble_eq_true rfl) ⟨by decide, by decide⟩ (fun ad' had => ?_)
  rw [← had 40 0 Nat.zero_lt_one]
  refine mg_i2l K md_W_receive_14 ?_
  refine mr_last (n := 1) (t0 := 5) K rfl (ma_t hty 5) md_W_receive_15 Nat.zero_lt_one (mi_vn (x := 0) (by omega) (by omega)) ?_
  refine mr_eqr (rb_sL _ _ _ _) ?_
  refine mg_goto K 23 md_W_receive_16 rfl ?_
  refine mg_iconst K (v := 0) md_W_receive_23 (by decide) ?_
  exact mg_iret K hret hlk md_W_receive_24 (by decide) (by decide) ⟨rfl, had, rfl⟩
theorem th_W_receive (hty : tys.map (·.2) = ma_ty) {g : ca_S} {h : rb_S} {o : Int64} {x0 x1 x2 x3 x4 : Int32} (hM : mg_T l my_A_receive [Cond.code my_A_receive mc_A_receive 8 (some .int)] (mg_rm 7 1 6) D mn_cl Z mb_B tys [va_rf (some (ad 0 0)), .int x0, .int x1, .int x2, .int x3, .int x4] ad (mr_C tys ma_sh ad (ma_R g (rb_R h o))) "java/lang/IllegalArgumentException") : mg_M l my_W_receive [Cond.codeWith my_W_receive mc_W_receive 8 (some .int) [(0, 16, 19, 13)]] (mg_rm 8 1 8) D mn_cl Z mb_B tys [va_rf (some (ad 0 0)), .int x0, .int x1, .int x2, .int x3, .int x4, va_rf (some (ad 40 0))] ad (mr_C tys ma_sh ad (ma_R g (rb_R h o))) 1 8 (mg_PoA tys ma_sh ad (ma_R g (rb_R h o)) (some (.int 1)) (ma_R g (rb_R h o))) := by
  refine mg_M.ofW (cc := mc_W_receive) (maxL := 8) (ret := some .int) (handlers := [(0, 16, 19, 13)]) (by decide) rfl (Nat.le_of_ble_eq_true rfl) (mg_caS rfl (mg_caS rfl (mg_caS rfl (mg_caS rfl (mg_caS rfl (mg_caS rfl (mg_caS rfl mg_ca0))))))) ?_
  intro p e s m args below meth c K hret hlk htab hA
  refine mg_aload K md_W_receive_0 rfl ?_
  refine mg_iconst K (v := 0) md_W_receive_2 (by decide) ?_
  refine mg_aload_n K md_W_receive_3 rfl ?_
  refine mg_iload_n K md_W_receive_4 rfl ?_
  refine mg_iload_n K md_W_receive_5 rfl ?_
  refine mg_iload_n K md_W_receive_6 rfl ?_
  refine mg_iload K md_W_receive_7 rfl ?_
  refine mg_iload K md_W_receive_9 rfl ?_
  refine mg_catchV (k := 0) (i := 0) (nm := "java/lang/IllegalArgumentException") K hA hM ⟨ms_W_7.1.b K ⟨by decide, by decide⟩ ms_W_7.2.1, K.1.2.2.2.2 _ ms_W_7.2.2.1, K.1.2.2.2.2 _ ms_W_7.2.2.2⟩ md_W_receive_11 rfl (mr_obj rfl Nat.zero_lt_one) rfl rfl (Nat.le_of_ble_eq_true rfl) ⟨by decide, by decide⟩ htab ⟨by decide, by decide⟩ (by decide) (mb 193 (by decide +kernel) rfl) (mb 203 (by decide +kernel) rfl) (fun q => ?_)
  refine mg_astore K md_W_receive_19 (by decide) ?_
  refine mg_iconst K (v := 1) md_W_receive_21 (by decide) ?_
  exact mg_iret K hret hlk md_W_receive_22 (by decide) (by decide) ⟨rfl, fun _ _ _ => rfl, rfl⟩
end LW1
