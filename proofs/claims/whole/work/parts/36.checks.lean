/-! the class: checks, and what throws -/
abbrev cv_s (x : Int32) : Prop := ¬ x < 0 ∧ ¬ 4 ≤ x
abbrev cv_n (x : Int32) : Prop := ¬ x < 1 ∧ ¬ 24 < x
abbrev cv_f (x : Int32) : Prop := ¬ x < 0 ∧ ¬ 5 ≤ x
abbrev cv_u (x : Int32) : Prop := ¬ x < 0 ∧ ¬ 16 ≤ x
abbrev cv_v (x : Int32) : Prop := ¬ x < -1000 ∧ ¬ 1000 < x
section CT0
variable {p : Program} {l : Launch} {e : Env} {R : Room} {s : State} {m : MethodId} {args : Array Value} {below : List Frame} {meth : Method} {c : Code} {Q : State → Prop}
variable {D : va_G} {cl : List vw_C} {Z : Nat × Cell} {tys : List (ClassId × FieldType)} {nL : Nat} {cc : ByteArray} {Ts : List Cond} {own : String}
variable {ad : mg_Ad} {sh : Nat → mr_Sh} {r : mr_St} {C : mg_Ct} {L : List (Option Value)} {cells slots pc : Nat} {st rest st0 : List Value}
theorem mr_getIO {B : Nat → Prop} (K : mg_K p m c cc nL s args Ts own D cl Z tys) (hW0 : mg_W D cl Z B ad (mr_C tys sh ad r) s.heap) {k i index f t : Nat} {ty : FieldType} {fin : Nat} {v : Int32} (hF : mr_Fd Ts cl sh own index k f t ty fin) (hd : decode cc pc = .ok (.getfield index, 3)) (ht : t ≠ 1) (hi : i < mr_pn r k) (hv : mr_iv r k i f = v) (kk : mg_G p l e R s m args below meth c D cl Z (mg_fr s.heap.size) s.heap nL Q ad C L cells slots (.int v :: st) (pc + 3)) : mg_G p l e R s m args below meth c D cl Z (mg_fr s.heap.size) s.heap nL Q ad C L cells slots (va_rf (some (ad k i)) :: st) pc := by
  obtain ⟨ci, fl, Cn, T, N, ty0, h1, h2, h3, h4, h5, h6, h7, h8, h9, h10, h11, h12⟩ := hF
  subst hv
  exact mg_getO K hW0 hd (mr_obj h1 hi) h2 h3 h6 h7 rfl ((mr_F_getI fl 0 f t _ _ h8 ht).trans (by rw [Nat.zero_add])) kk
theorem mr_getSO {B : Nat → Prop} (K : mg_K p m c cc nL s args Ts own D cl Z tys) (hW0 : mg_W D cl Z B ad (mr_C tys sh ad r) s.heap) {k i index f k2 i2 : Nat} {ty : FieldType} {fin : Nat} (hF : mr_Fd Ts cl sh own index k f 1 ty fin) (hd : decode cc pc = .ok (.getfield index, 3)) (hi : i < mr_pn r k) (hv : mr_rv r k i f = some (k2, i2)) (kk : mg_G p l e R s m args below meth c D cl Z (mg_fr s.heap.size) s.heap nL Q ad C L cells slots (va_rf (some (ad k2 i2)) :: st) (pc + 3)) : mg_G p l e R s m args below meth c D cl Z (mg_fr s.heap.size) s.heap nL Q ad C L cells slots (va_rf (some (ad k i)) :: st) pc := by
  obtain ⟨ci, fl, Cn, T, N, ty0, h1, h2, h3, h4, h5, h6, h7, h8, h9, h10, h11, h12⟩ := hF
  exact mg_getO K hW0 hd (mr_obj h1 hi) h2 h3 h6 h7 rfl ((mr_F_getR fl 0 f _ _ h8).trans (by rw [Nat.zero_add, hv]; rfl)) kk
theorem mr_aaldSO {B : Nat → Prop} (K : mg_K p m c cc nL s args Ts own D cl Z tys) (hW0 : mg_W D cl Z B ad (mr_C tys sh ad r) s.heap) {k i n t0 k2 i2 : Nat} {Cn : String} {x : Int32} (hk : sh k = .inr (t0, n, 2)) (ht : (tys[t0]?).map (·.2) = some (.object Cn)) (hd : decode cc pc = .ok (.aaload, 1)) (hi : i < mr_pn r k) (hin : vp_in x n) (hv : mr_rv r k i x.toNatClampNeg = some (k2, i2)) (kk : mg_G p l e R s m args below meth c D cl Z (mg_fr s.heap.size) s.heap nL Q ad C L cells slots (va_rf (some (ad k2 i2)) :: st) (pc + 1)) : mg_G p l e R s m args below meth c D cl Z (mg_fr s.heap.size) s.heap nL Q ad C L cells slots (.int x :: va_rf (some (ad k i)) :: st) pc := by
  refine mg_aaldO K hW0 t0 hd (mr_arR hk hi) (mr_tys ht) hin ?_
  rw [hv]
  exact kk
theorem mr_pass (K : mg_K p m c cc nL s args Ts own D cl Z tys) (hlk : meth.locks = false) (hno : c.exceptionTable.isEmpty = true) {y : MethodName} {bytes : ByteArray} {maxL index d' : Nat} {ret : Option FieldType} {As : List Value} {ad0 : mg_Ad} {Xn : String}
    (hM : mg_T l y [Cond.code y bytes maxL ret] (mg_rm d' 1 6) D cl Z Ts tys As ad0 mg_0 Xn) (hs : mr_Ss Ts own index y bytes maxL ret As.length) (hR : d' + 1 ≤ R.frames ∧ 19 + maxL + (30 * d' + 60) ≤ R.locals) (hd : decode cc pc = .ok (.invokestatic index, 3)) (hst : st0 = As.reverse ++ rest) (hrm : (rest.map fun v => v.category).sum ≤ 8) (hf : 1 ≤ R.cells ∧ 6 ≤ R.slots) :
    mg_G p l e R s m args below meth c D cl Z (mg_fr s.heap.size) s.heap nL (mg_MQT below (mg_QT s.heap.size Xn) args s 1 6 (mg_fr s.heap.size)) ad mg_0 L 0 0 st0 pc :=
  mg_passS K hlk hno hM ⟨hs.1.b K hR hs.2.1, K.1.2.2.2.2 _ hs.2.2⟩ hd hst rfl hrm hf
end CT0
section CT1
variable {l : Launch} {D : va_G} {Z : Nat × Cell} {tys : List (ClassId × FieldType)}
theorem ct_A_checkSender (x : Int32) (hx : cv_s x) : mr_MS l my_A_checkSender mc_A_checkSender 1 none 2 D mn_cl Z mb_B tys [.int x] none := by
  intro ad C
  refine mg_M.of (cc := mc_A_checkSender) (maxL := 1) (ret := none) (by decide) rfl (Nat.le_of_ble_eq_true rfl) (mg_caS rfl mg_ca0) ?_
  intro p e s m args below meth c K hret hlk hnm hA
  refine mg_iload_n K md_A_checkSender_0 rfl ?_
  refine mr_cP K hA (ct_A_isSender x) ms_A_156 (by decide) md_A_checkSender_1 rfl (by decide) ⟨Nat.zero_le _, Nat.zero_le _⟩ ?_
  rw [if_pos hx]
  refine mg_if_ne K 17 md_A_checkSender_4 rfl (fun h4 => ?_) (fun h4 => ?_)
  · exact mg_vret K hret hlk md_A_checkSender_17 (Nat.le_refl _) (Nat.le_refl _) ⟨rfl, rfl, rfl⟩
  · exact absurd h4 (by decide)
theorem th_A_checkSender (hfl : l.flags = pinnedFlags ++ [noTraceFlag]) (x : Int32) (hx : ¬ cv_s x) (ad : mg_Ad) (C : mg_Ct) : mg_T l my_A_checkSender [Cond.code my_A_checkSender mc_A_checkSender 1 none] (mg_rm 6 1 6) D mn_cl Z mb_B tys [.int x] ad C "java/lang/IllegalArgumentException" := by
  refine mg_T.of hfl (cc := mc_A_checkSender) (maxL := 1) (ret := none) (by decide) rfl (Nat.le_of_ble_eq_true rfl) (mg_caS rfl mg_ca0) ?_
  intro p e s m args below meth c K hlk hno htr hW0
  refine mg_iload_n K md_A_checkSender_0 rfl ?_
  refine mr_cP K (fun q h => h) (ct_A_isSender x) ms_A_156 (by decide) md_A_checkSender_1 rfl (by decide) ⟨Nat.zero_le _, Nat.zero_le _⟩ ?_
  rw [if_neg hx]
  refine mg_if_ne K 17 md_A_checkSender_4 rfl (fun h4 => ?_) (fun h4 => ?_)
  · exact absurd rfl h4
  · exact mg_throw K hlk hno htr ["java/lang/RuntimeException", "java/lang/Exception"] md_A_checkSender_7 md_A_checkSender_10 md_A_checkSender_11 md_A_checkSender_13 md_A_checkSender_16 mw_A_102.1 mw_A_102.2 (by decide) (by decide) mo_iae mk_A_166 (by decide) (by decide) (by decide) (by decide)
theorem ct_A_checkNumber (x : Int32) (hx : cv_n x) : mr_MS l my_A_checkNumber mc_A_checkNumber 1 none 2 D mn_cl Z mb_B tys [.int x] none := by
  intro ad C
  refine mg_M.of (cc := mc_A_checkNumber) (maxL := 1) (ret := none) (by decide) rfl (Nat.le_of_ble_eq_true rfl) (mg_caS rfl mg_ca0) ?_
  intro p e s m args below meth c K hret hlk hnm hA
  refine mg_iload_n K md_A_checkNumber_0 rfl ?_
  refine mr_cP K hA (ct_A_isNumber x) ms_A_168 (by decide) md_A_checkNumber_1 rfl (by decide) ⟨Nat.zero_le _, Nat.zero_le _⟩ ?_
  rw [if_pos hx]
  refine mg_if_ne K 17 md_A_checkNumber_4 rfl (fun h4 => ?_) (fun h4 => ?_)
  · exact mg_vret K hret hlk md_A_checkNumber_17 (Nat.le_refl _) (Nat.le_refl _) ⟨rfl, rfl, rfl⟩
  · exact absurd h4 (by decide)
theorem th_A_checkNumber (hfl : l.flags = pinnedFlags ++ [noTraceFlag]) (x : Int32) (hx : ¬ cv_n x) (ad : mg_Ad) (C : mg_Ct) : mg_T l my_A_checkNumber [Cond.code my_A_checkNumber mc_A_checkNumber 1 none] (mg_rm 6 1 6) D mn_cl Z mb_B tys [.int x] ad C "java/lang/IllegalArgumentException" := by
  refine mg_T.of hfl (cc := mc_A_checkNumber) (maxL := 1) (ret := none) (by decide) rfl (Nat.le_of_ble_eq_true rfl) (mg_caS rfl mg_ca0) ?_
  intro p e s m args below meth c K hlk hno htr hW0
  refine mg_iload_n K md_A_checkNumber_0 rfl ?_
  refine mr_cP K (fun q h => h) (ct_A_isNumber x) ms_A_168 (by decide) md_A_checkNumber_1 rfl (by decide) ⟨Nat.zero_le _, Nat.zero_le _⟩ ?_
  rw [if_neg hx]
  refine mg_if_ne K 17 md_A_checkNumber_4 rfl (fun h4 => ?_) (fun h4 => ?_)
  · exact absurd rfl h4
  · exact mg_throw K hlk hno htr ["java/lang/RuntimeException", "java/lang/Exception"] md_A_checkNumber_7 md_A_checkNumber_10 md_A_checkNumber_11 md_A_checkNumber_13 md_A_checkNumber_16 mw_A_102.1 mw_A_102.2 (by decide) (by decide) mo_iae mk_A_171 (by decide) (by decide) (by decide) (by decide)
theorem ct_A_checkContent (x y z : Int32) (hx : cv_f x) (hy : cv_u y) (hz : cv_v z) : mr_MS l my_A_checkContent mc_A_checkContent 3 none 2 D mn_cl Z mb_B tys [.int x, .int y, .int z] none := by
  intro ad C
  refine mg_M.of (cc := mc_A_checkContent) (maxL := 3) (ret := none) (by decide) rfl (Nat.le_of_ble_eq_true rfl) (mg_caS rfl (mg_caS rfl (mg_caS rfl mg_ca0))) ?_
  intro p e s m args below meth c K hret hlk hnm hA
  refine mg_iload_n K md_A_checkContent_0 rfl ?_
  refine mr_cP K hA (ct_A_isFunction x) ms_A_98 (by decide) md_A_checkContent_1 rfl (by decide) ⟨Nat.zero_le _, Nat.zero_le _⟩ ?_
  rw [if_pos hx]
  refine mg_if_eq K 24 md_A_checkContent_4 rfl (fun h4 => ?_) (fun h4 => ?_)
  · exact absurd h4 (by decide)
  · refine mg_iload_n K md_A_checkContent_7 rfl ?_
    refine mr_cP K hA (ct_A_isSubject y) ms_A_92 (by decide) md_A_checkContent_8 rfl (by decide) ⟨Nat.zero_le _, Nat.zero_le _⟩ ?_
    rw [if_pos hy]
    refine mg_if_eq K 24 md_A_checkContent_11 rfl (fun h11 => ?_) (fun h11 => ?_)
    · exact absurd h11 (by decide)
    · refine mg_iload_n K md_A_checkContent_14 rfl ?_
      refine mg_sipush K (v := 1000) md_A_checkContent_15 (by decide) ?_
      refine mr_cP K hA (ct_A_isWithin z 1000) ms_A_173 (by decide) md_A_checkContent_18 rfl (by decide) ⟨Nat.zero_le _, Nat.zero_le _⟩ ?_
      rw [if_pos hz]
      refine mg_if_ne K 34 md_A_checkContent_21 rfl (fun h21 => ?_) (fun h21 => ?_)
      · exact mg_vret K hret hlk md_A_checkContent_34 (Nat.le_refl _) (Nat.le_refl _) ⟨rfl, rfl, rfl⟩
      · exact absurd h21 (by decide)
theorem th_A_checkContent (hfl : l.flags = pinnedFlags ++ [noTraceFlag]) (x y z : Int32) (h : ¬ (cv_f x ∧ cv_u y ∧ cv_v z)) (ad : mg_Ad) (C : mg_Ct) : mg_T l my_A_checkContent [Cond.code my_A_checkContent mc_A_checkContent 3 none] (mg_rm 6 1 6) D mn_cl Z mb_B tys [.int x, .int y, .int z] ad C "java/lang/IllegalArgumentException" := by
  refine mg_T.of hfl (cc := mc_A_checkContent) (maxL := 3) (ret := none) (by decide) rfl (Nat.le_of_ble_eq_true rfl) (mg_caS rfl (mg_caS rfl (mg_caS rfl mg_ca0))) ?_
  intro p e s m args below meth c K hlk hno htr hW0
  by_cases hx : cv_f x
  · by_cases hy : cv_u y
    · refine mg_iload_n K md_A_checkContent_0 rfl ?_
      refine mr_cP K (fun q h => h) (ct_A_isFunction x) ms_A_98 (by decide) md_A_checkContent_1 rfl (by decide) ⟨Nat.zero_le _, Nat.zero_le _⟩ ?_
      rw [if_pos hx]
      refine mg_if_eq K 24 md_A_checkContent_4 rfl (fun h4 => ?_) (fun h4 => ?_)
      · exact absurd h4 (by decide)
      · refine mg_iload_n K md_A_checkContent_7 rfl ?_
        refine mr_cP K (fun q h => h) (ct_A_isSubject y) ms_A_92 (by decide) md_A_checkContent_8 rfl (by decide) ⟨Nat.zero_le _, Nat.zero_le _⟩ ?_
        rw [if_pos hy]
        refine mg_if_eq K 24 md_A_checkContent_11 rfl (fun h11 => ?_) (fun h11 => ?_)
        · exact absurd h11 (by decide)
        · refine mg_iload_n K md_A_checkContent_14 rfl ?_
          refine mg_sipush K (v := 1000) md_A_checkContent_15 (by decide) ?_
          refine mr_cP K (fun q h => h) (ct_A_isWithin z 1000) ms_A_173 (by decide) md_A_checkContent_18 rfl (by decide) ⟨Nat.zero_le _, Nat.zero_le _⟩ ?_
          rw [if_neg (fun hz => h ⟨hx, hy, hz⟩)]
          refine mg_if_ne K 34 md_A_checkContent_21 rfl (fun h21 => ?_) (fun h21 => ?_)
          · exact absurd rfl h21
          · exact mg_throw K hlk hno htr ["java/lang/RuntimeException", "java/lang/Exception"] md_A_checkContent_24 md_A_checkContent_27 md_A_checkContent_28 md_A_checkContent_30 md_A_checkContent_33 mw_A_102.1 mw_A_102.2 (by decide) (by decide) mo_iae mk_A_176 (by decide) (by decide) (by decide) (by decide)
    · refine mg_iload_n K md_A_checkContent_0 rfl ?_
      refine mr_cP K (fun q h => h) (ct_A_isFunction x) ms_A_98 (by decide) md_A_checkContent_1 rfl (by decide) ⟨Nat.zero_le _, Nat.zero_le _⟩ ?_
      rw [if_pos hx]
      refine mg_if_eq K 24 md_A_checkContent_4 rfl (fun h4 => ?_) (fun h4 => ?_)
      · exact absurd h4 (by decide)
      · refine mg_iload_n K md_A_checkContent_7 rfl ?_
        refine mr_cP K (fun q h => h) (ct_A_isSubject y) ms_A_92 (by decide) md_A_checkContent_8 rfl (by decide) ⟨Nat.zero_le _, Nat.zero_le _⟩ ?_
        rw [if_neg hy]
        refine mg_if_eq K 24 md_A_checkContent_11 rfl (fun h11 => ?_) (fun h11 => ?_)
        · exact mg_throw K hlk hno htr ["java/lang/RuntimeException", "java/lang/Exception"] md_A_checkContent_24 md_A_checkContent_27 md_A_checkContent_28 md_A_checkContent_30 md_A_checkContent_33 mw_A_102.1 mw_A_102.2 (by decide) (by decide) mo_iae mk_A_176 (by decide) (by decide) (by decide) (by decide)
        · exact absurd rfl h11
  · refine mg_iload_n K md_A_checkContent_0 rfl ?_
    refine mr_cP K (fun q h => h) (ct_A_isFunction x) ms_A_98 (by decide) md_A_checkContent_1 rfl (by decide) ⟨Nat.zero_le _, Nat.zero_le _⟩ ?_
    rw [if_neg hx]
    refine mg_if_eq K 24 md_A_checkContent_4 rfl (fun h4 => ?_) (fun h4 => ?_)
    · exact mg_throw K hlk hno htr ["java/lang/RuntimeException", "java/lang/Exception"] md_A_checkContent_24 md_A_checkContent_27 md_A_checkContent_28 md_A_checkContent_30 md_A_checkContent_33 mw_A_102.1 mw_A_102.2 (by decide) (by decide) mo_iae mk_A_176 (by decide) (by decide) (by decide) (by decide)
    · exact absurd rfl h4
end CT1
section CT2
variable {l : Launch} {D : va_G} {Z : Nat × Cell} {tys : List (ClassId × FieldType)} {ad : mg_Ad}
theorem th_A_receive (hfl : l.flags = pinnedFlags ++ [noTraceFlag]) (C : mg_Ct) (a b c2 d2 v : Int32) (h : ¬ (cv_s a ∧ cv_n b ∧ (cv_f c2 ∧ cv_u d2 ∧ cv_v v))) : mg_T l my_A_receive [Cond.code my_A_receive mc_A_receive 8 (some .int)] (mg_rm 7 1 6) D mn_cl Z mb_B tys [va_rf (some (ad 0 0)), .int a, .int b, .int c2, .int d2, .int v] ad C "java/lang/IllegalArgumentException" := by
  refine mg_T.of hfl (cc := mc_A_receive) (maxL := 8) (ret := (some .int)) (by decide) rfl (Nat.le_of_ble_eq_true rfl) (mg_caS rfl (mg_caS rfl (mg_caS rfl (mg_caS rfl (mg_caS rfl (mg_caS rfl mg_ca0)))))) ?_
  intro p e s m args below meth c K hlk hno htr hW0
  by_cases hc0 : cv_s a
  case neg =>
    refine mg_iload_n K md_A_receive_0 rfl ?_
    exact mr_pass K hlk hno (th_A_checkSender hfl a hc0 ad mg_0) ms_A_50 (by decide) md_A_receive_1 rfl (by decide) ⟨by decide, by decide⟩
  by_cases hc1 : cv_n b
  case neg =>
    refine mg_iload_n K md_A_receive_0 rfl ?_
    refine mr_cP K (fun q h => h) (ct_A_checkSender a hc0) ms_A_50 (by decide) md_A_receive_1 rfl (by decide) ⟨Nat.zero_le _, Nat.zero_le _⟩ ?_
    refine mg_iload_n K md_A_receive_4 rfl ?_
    exact mr_pass K hlk hno (th_A_checkNumber hfl b hc1 ad mg_0) ms_A_54 (by decide) md_A_receive_5 rfl (by decide) ⟨by decide, by decide⟩
  refine mg_iload_n K md_A_receive_0 rfl ?_
  refine mr_cP K (fun q h => h) (ct_A_checkSender a hc0) ms_A_50 (by decide) md_A_receive_1 rfl (by decide) ⟨Nat.zero_le _, Nat.zero_le _⟩ ?_
  refine mg_iload_n K md_A_receive_4 rfl ?_
  refine mr_cP K (fun q h => h) (ct_A_checkNumber b hc1) ms_A_54 (by decide) md_A_receive_5 rfl (by decide) ⟨Nat.zero_le _, Nat.zero_le _⟩ ?_
  refine mg_iload_n K md_A_receive_8 rfl ?_
  refine mg_iload K md_A_receive_9 rfl ?_
  refine mg_iload K md_A_receive_11 rfl ?_
  exact mr_pass K hlk hno (th_A_checkContent hfl c2 d2 v (fun z => h ⟨hc0, hc1, z⟩) ad mg_0) ms_A_57 (by decide) md_A_receive_13 rfl (by decide) ⟨by decide, by decide⟩
theorem th_A_status (hfl : l.flags = pinnedFlags ++ [noTraceFlag]) (C : mg_Ct) (a b : Int32) (h : ¬ (cv_s a ∧ cv_n b)) : mg_T l my_A_status [Cond.code my_A_status mc_A_status 4 (some .int)] (mg_rm 7 1 6) D mn_cl Z mb_B tys [va_rf (some (ad 0 0)), .int a, .int b] ad C "java/lang/IllegalArgumentException" := by
  refine mg_T.of hfl (cc := mc_A_status) (maxL := 4) (ret := (some .int)) (by decide) rfl (Nat.le_of_ble_eq_true rfl) (mg_caS rfl (mg_caS rfl (mg_caS rfl mg_ca0))) ?_
  intro p e s m args below meth c K hlk hno htr hW0
  by_cases hc0 : cv_s a
  case neg =>
    refine mg_iload_n K md_A_status_0 rfl ?_
    exact mr_pass K hlk hno (th_A_checkSender hfl a hc0 ad mg_0) ms_A_50 (by decide) md_A_status_1 rfl (by decide) ⟨by decide, by decide⟩
  refine mg_iload_n K md_A_status_0 rfl ?_
  refine mr_cP K (fun q h => h) (ct_A_checkSender a hc0) ms_A_50 (by decide) md_A_status_1 rfl (by decide) ⟨Nat.zero_le _, Nat.zero_le _⟩ ?_
  refine mg_iload_n K md_A_status_4 rfl ?_
  exact mr_pass K hlk hno (th_A_checkNumber hfl b (fun z => h ⟨hc0, z⟩) ad mg_0) ms_A_54 (by decide) md_A_status_5 rfl (by decide) ⟨by decide, by decide⟩
theorem th_A_answer (hfl : l.flags = pinnedFlags ++ [noTraceFlag]) (C : mg_Ct) (a b : Int32) (h : ¬ (cv_s a ∧ cv_n b)) : mg_T l my_A_answer [Cond.code my_A_answer mc_A_answer 4 (some .int)] (mg_rm 7 1 6) D mn_cl Z mb_B tys [va_rf (some (ad 0 0)), .int a, .int b] ad C "java/lang/IllegalArgumentException" := by
  refine mg_T.of hfl (cc := mc_A_answer) (maxL := 4) (ret := (some .int)) (by decide) rfl (Nat.le_of_ble_eq_true rfl) (mg_caS rfl (mg_caS rfl (mg_caS rfl mg_ca0))) ?_
  intro p e s m args below meth c K hlk hno htr hW0
  by_cases hc0 : cv_s a
  case neg =>
    refine mg_iload_n K md_A_answer_0 rfl ?_
    exact mr_pass K hlk hno (th_A_checkSender hfl a hc0 ad mg_0) ms_A_50 (by decide) md_A_answer_1 rfl (by decide) ⟨by decide, by decide⟩
  refine mg_iload_n K md_A_answer_0 rfl ?_
  refine mr_cP K (fun q h => h) (ct_A_checkSender a hc0) ms_A_50 (by decide) md_A_answer_1 rfl (by decide) ⟨Nat.zero_le _, Nat.zero_le _⟩ ?_
  refine mg_iload_n K md_A_answer_4 rfl ?_
  exact mr_pass K hlk hno (th_A_checkNumber hfl b (fun z => h ⟨hc0, z⟩) ad mg_0) ms_A_54 (by decide) md_A_answer_5 rfl (by decide) ⟨by decide, by decide⟩
theorem th_A_replay (hfl : l.flags = pinnedFlags ++ [noTraceFlag]) (C : mg_Ct) (a b : Int32) (h : ¬ (cv_s a ∧ cv_n b)) : mg_T l my_A_replay [Cond.code my_A_replay mc_A_replay 7 (some .int)] (mg_rm 7 1 6) D mn_cl Z mb_B tys [va_rf (some (ad 0 0)), .int a, .int b] ad C "java/lang/IllegalArgumentException" := by
  refine mg_T.of hfl (cc := mc_A_replay) (maxL := 7) (ret := (some .int)) (by decide) rfl (Nat.le_of_ble_eq_true rfl) (mg_caS rfl (mg_caS rfl (mg_caS rfl mg_ca0))) ?_
  intro p e s m args below meth c K hlk hno htr hW0
  by_cases hc0 : cv_s a
  case neg =>
    refine mg_iload_n K md_A_replay_0 rfl ?_
    exact mr_pass K hlk hno (th_A_checkSender hfl a hc0 ad mg_0) ms_A_50 (by decide) md_A_replay_1 rfl (by decide) ⟨by decide, by decide⟩
  refine mg_iload_n K md_A_replay_0 rfl ?_
  refine mr_cP K (fun q h => h) (ct_A_checkSender a hc0) ms_A_50 (by decide) md_A_replay_1 rfl (by decide) ⟨Nat.zero_le _, Nat.zero_le _⟩ ?_
  refine mg_iload_n K md_A_replay_4 rfl ?_
  exact mr_pass K hlk hno (th_A_checkNumber hfl b (fun z => h ⟨hc0, z⟩) ad mg_0) ms_A_54 (by decide) md_A_replay_5 rfl (by decide) ⟨by decide, by decide⟩
theorem th_A_skip (hfl : l.flags = pinnedFlags ++ [noTraceFlag]) (C : mg_Ct) (a : Int32) (h : ¬ (cv_s a)) : mg_T l my_A_skip [Cond.code my_A_skip mc_A_skip 4 (some .int)] (mg_rm 7 1 6) D mn_cl Z mb_B tys [va_rf (some (ad 0 0)), .int a] ad C "java/lang/IllegalArgumentException" := by
  refine mg_T.of hfl (cc := mc_A_skip) (maxL := 4) (ret := (some .int)) (by decide) rfl (Nat.le_of_ble_eq_true rfl) (mg_caS rfl (mg_caS rfl mg_ca0)) ?_
  intro p e s m args below meth c K hlk hno htr hW0
  refine mg_iload_n K md_A_skip_0 rfl ?_
  exact mr_pass K hlk hno (th_A_checkSender hfl a (fun z => h z) ad mg_0) ms_A_50 (by decide) md_A_skip_1 rfl (by decide) ⟨by decide, by decide⟩
theorem th_A_cut (hfl : l.flags = pinnedFlags ++ [noTraceFlag]) (C : mg_Ct) (a : Int32) (h : ¬ (cv_s a)) : mg_T l my_A_cut [Cond.code my_A_cut mc_A_cut 2 (some .int)] (mg_rm 7 1 6) D mn_cl Z mb_B tys [va_rf (some (ad 0 0)), .int a] ad C "java/lang/IllegalArgumentException" := by
  refine mg_T.of hfl (cc := mc_A_cut) (maxL := 2) (ret := (some .int)) (by decide) rfl (Nat.le_of_ble_eq_true rfl) (mg_caS rfl (mg_caS rfl mg_ca0)) ?_
  intro p e s m args below meth c K hlk hno htr hW0
  refine mg_iload_n K md_A_cut_0 rfl ?_
  exact mr_pass K hlk hno (th_A_checkSender hfl a (fun z => h z) ad mg_0) ms_A_50 (by decide) md_A_cut_1 rfl (by decide) ⟨by decide, by decide⟩
theorem th_A_tick (hfl : l.flags = pinnedFlags ++ [noTraceFlag]) (g : ca_S) (q : mr_St) (t : Int32) (h : ¬ (¬ t < ca_iv g 0 0 7 ∧ ¬ 100000 < t)) : mg_T l my_A_tick [Cond.code my_A_tick mc_A_tick 3 (some .int)] (mg_rm 7 1 6) D mn_cl Z mb_B tys [va_rf (some (ad 0 0)), .int t] ad (mr_C tys ma_sh ad (ma_R g q)) "java/lang/IllegalArgumentException" := by
  refine mg_T.of hfl (cc := mc_A_tick) (maxL := 3) (ret := (some .int)) (by decide) rfl (Nat.le_of_ble_eq_true rfl) (mg_caS rfl (mg_caS rfl mg_ca0)) ?_
  intro p e s m args below meth c K hlk hno htr hW0
  refine mg_iload_n K md_A_tick_0 rfl ?_
  refine mg_aload_n K md_A_tick_1 rfl ?_
  refine mr_getIO (r := ma_R g q) (v := ca_iv g 0 0 7) K hW0 mf_A_41 md_A_tick_2 (by decide) Nat.zero_lt_one rfl ?_
  refine mg_icmp_lt K 14 md_A_tick_5 rfl (fun h5 => ?_) (fun h5 => ?_)
  · exact mg_throw K hlk hno htr ["java/lang/RuntimeException", "java/lang/Exception"] md_A_tick_14 md_A_tick_17 md_A_tick_18 md_A_tick_20 md_A_tick_23 mw_A_102.1 mw_A_102.2 (by decide) (by decide) mo_iae mk_A_104 (by decide) (by decide) (by decide) (by decide)
  · refine mg_iload_n K md_A_tick_8 rfl ?_
    refine mg_ldc K md_A_tick_9 mk_A_101 ?_
    refine mg_icmp_le K 24 md_A_tick_11 rfl (fun h11 => ?_) (fun h11 => ?_)
    · exact absurd ⟨h5, Int32.not_lt.mpr h11⟩ h
    · exact mg_throw K hlk hno htr ["java/lang/RuntimeException", "java/lang/Exception"] md_A_tick_14 md_A_tick_17 md_A_tick_18 md_A_tick_20 md_A_tick_23 mw_A_102.1 mw_A_102.2 (by decide) (by decide) mo_iae mk_A_104 (by decide) (by decide) (by decide) (by decide)
theorem th_A_look (hfl : l.flags = pinnedFlags ++ [noTraceFlag]) (hty : tys.map (·.2) = ma_ty) (g : ca_S) (q : mr_St) (u w : Int32) (h : ¬ (cv_u u ∧ ¬ w < 0 ∧ ¬ 4 ≤ w)) : mg_T l my_A_look [Cond.code my_A_look mc_A_look 4 (some .int)] (mg_rm 7 1 6) D mn_cl Z mb_B tys [va_rf (some (ad 0 0)), .int u, .int w] ad (mr_C tys ma_sh ad (ma_R g q)) "java/lang/IndexOutOfBoundsException" := by
  refine mg_T.of hfl (cc := mc_A_look) (maxL := 4) (ret := (some .int)) (by decide) rfl (Nat.le_of_ble_eq_true rfl) (mg_caS rfl (mg_caS rfl (mg_caS rfl mg_ca0))) ?_
  intro p e s m args below meth c K hlk hno htr hW0
  by_cases hu : cv_u u
  case neg =>
    refine mg_iload_n K md_A_look_0 rfl ?_
    refine mr_cP K (fun q h => h) (ct_A_isSubject u) ms_A_92 (by decide) md_A_look_1 rfl (by decide) ⟨Nat.zero_le _, Nat.zero_le _⟩ ?_
    rw [if_neg hu]
    refine mg_if_ne K 17 md_A_look_4 rfl (fun h4 => ?_) (fun h4 => ?_)
    · exact absurd rfl h4
    · exact mg_throw K hlk hno htr ["java/lang/RuntimeException", "java/lang/Exception"] md_A_look_7 md_A_look_10 md_A_look_11 md_A_look_13 md_A_look_16 mw_A_136.1 mw_A_136.2 (by decide) (by decide) mo_ioob mk_A_138 (by decide) (by decide) (by decide) (by decide)
  obtain ⟨n, hn, rfl⟩ := mi_ex hu.1
  have hn16 : n < 16 := by have := mt (mi_le (a := 16) (b := n) (by omega) hn).mpr hu.2; omega
  refine mg_iload_n K md_A_look_0 rfl ?_
  refine mr_cP K (fun q h => h) (ct_A_isSubject (Int32.ofNat n)) ms_A_92 (by decide) md_A_look_1 rfl (by decide) ⟨Nat.zero_le _, Nat.zero_le _⟩ ?_
  rw [if_pos hu]
  refine mg_if_ne K 17 md_A_look_4 rfl (fun h4 => ?_) (fun h4 => ?_)
  · refine mg_aload_n K md_A_look_17 rfl ?_
    refine mr_getSO (r := ma_R g q) (k2 := 2) (i2 := 0) K hW0 mf_A_17 md_A_look_18 Nat.zero_lt_one rfl ?_
    refine mg_iload_n K md_A_look_21 rfl ?_
    refine mr_aaldSO (r := ma_R g q) (k2 := 7) (i2 := n) K hW0 rfl (ma_t hty 1) md_A_look_22 Nat.zero_lt_one (mi_vn hn hn16) (by rw [mi_tn hn]; exact ma_sub hn16 g q) ?_
    refine mg_astore_n K md_A_look_23 (by decide) ?_
    refine mg_iload_n K md_A_look_24 rfl ?_
    by_cases hS25_0 : w = 0
    · exact absurd ⟨hu, by rw [hS25_0]; decide, by rw [hS25_0]; decide⟩ h
    by_cases hS25_1 : w = 1
    · exact absurd ⟨hu, by rw [hS25_1]; decide, by rw [hS25_1]; decide⟩ h
    by_cases hS25_2 : w = 2
    · exact absurd ⟨hu, by rw [hS25_2]; decide, by rw [hS25_2]; decide⟩ h
    by_cases hS25_3 : w = 3
    · exact absurd ⟨hu, by rw [hS25_3]; decide, by rw [hS25_3]; decide⟩ h
    have ehS25_0 : (w).toInt ≠ 0 := fun z => hS25_0 (Int32.toInt_inj.mp z)
    have ehS25_1 : (w).toInt ≠ 1 := fun z => hS25_1 (Int32.toInt_inj.mp z)
    have ehS25_2 : (w).toInt ≠ 2 := fun z => hS25_2 (Int32.toInt_inj.mp z)
    have ehS25_3 : (w).toInt ≠ 3 := fun z => hS25_3 (Int32.toInt_inj.mp z)
    refine mg_tabOut K 80 md_A_look_25 (by omega) rfl ?_
    exact mg_throw K hlk hno htr ["java/lang/RuntimeException", "java/lang/Exception"] md_A_look_80 md_A_look_83 md_A_look_84 md_A_look_86 md_A_look_89 mw_A_136.1 mw_A_136.2 (by decide) (by decide) mo_ioob mk_A_150 (by decide) (by decide) (by decide) (by decide)
  · exact absurd h4 (by decide)
end CT2
