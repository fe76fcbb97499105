/-! the reference's constructor: j arrays are made -/
def rj (j : Nat) : mr_St := (fun _ _ _ => 0, fun _ _ _ => 0, fun k _ f => if k = 20 then (match rb_fd f with | some x => if x.1 < 21 + j then some x else none | none => none) else none, fun k => if k < 21 + j then 1 else 0)
theorem rb_fd_c {f : Nat} {x : Nat × Nat} (h : rb_fd f = some x) : x.2 = 0 ∧ 21 ≤ x.1 ∧ x.1 < 38 := by
  unfold rb_fd at h
  split at h <;> first | (cases h; done) | (cases h; exact ⟨rfl, by decide, by decide⟩)
theorem rj_hq (j : Nat) : ∀ k i f x, 20 ≤ k → i < mr_pn (rj j) k → mr_rv (rj j) k i f = some x → x.2 < mr_pn (rj j) x.1 ∧ 20 ≤ x.1 := by
  intro k i f x hk hi hx
  change (if k = 20 then (match rb_fd f with | some x => if x.1 < 21 + j then some x else none | none => none) else none) = some x at hx
  split at hx
  · cases e : rb_fd f with
    | none => rw [e] at hx; cases hx
    | some y =>
      rw [e] at hx
      simp only at hx
      split at hx
      · next hlt =>
        cases hx
        obtain ⟨h1, h2, h3⟩ := rb_fd_c e
        refine ⟨?_, by omega⟩
        show x.2 < (if x.1 < 21 + j then 1 else 0)
        rw [if_pos hlt, h1]
        exact Nat.zero_lt_one
      · cases hx
  · cases hx
theorem rj_pn (g : ca_S) (j k : Nat) (hk : 20 ≤ k) : mr_pn (ma_R g (rj j)) k = if k < 21 + j then 1 else 0 := by
  show ma_pn g (rj j) k = _
  unfold ma_pn
  rw [if_neg (by omega), if_neg (by omega), if_neg (by omega), if_neg (by omega), if_neg (by omega)]
  rfl
theorem ma_pn20 (g : ca_S) (q q' : mr_St) (k : Nat) (hk : k < 20) : ma_pn g q k = ma_pn g q' k := by
  unfold ma_pn
  by_cases h4 : k < 4
  · rw [if_pos h4, if_pos h4]
  · rw [if_neg h4, if_neg h4]
    by_cases h7 : k = 7
    · rw [if_pos h7, if_pos h7]
    · rw [if_neg h7, if_neg h7]
      by_cases h10 : k < 10
      · rw [if_pos h10, if_pos h10]
      · rw [if_neg h10, if_neg h10, if_pos hk, if_pos hk]
theorem rj_mono {g : ca_S} {j a b : Nat} (h : b < mr_pn (ma_R g (rj 0)) a) : b < mr_pn (ma_R g (rj j)) a := by
  by_cases ha : a < 20
  · change b < ma_pn g (rj 0) a at h
    show b < ma_pn g (rj j) a
    rw [ma_pn20 g (rj j) (rj 0) a ha]
    exact h
  · rw [rj_pn g _ _ (by omega)] at h ⊢
    split at h
    · rw [if_pos (by omega)]; exact h
    · omega
theorem ma_rv20 (g : ca_S) (q : mr_St) (k i f : Nat) (hk : 20 ≤ k) : ma_rv g q k i f = mr_rv q k i f := by
  unfold ma_rv
  rw [if_neg (by omega), if_neg (by omega), if_neg (by omega), if_neg (by omega), if_neg (by omega), if_neg (by omega), if_neg (by omega), if_neg (by omega), if_neg (by omega)]
theorem ma_rvl (g : ca_S) (q q' : mr_St) (k i f : Nat) (hk : k < 20) : ma_rv g q k i f = ma_rv g q' k i f := by
  unfold ma_rv
  rw [if_pos hk, if_pos hk]
theorem ma_iv20 (g : ca_S) (q : mr_St) (k i f : Nat) (hk : 20 ≤ k) : ma_iv g q k i f = mr_iv q k i f := by
  unfold ma_iv
  rw [if_neg (by omega), if_neg (by omega)]
theorem ma_ivl (g : ca_S) (q q' : mr_St) (k i f : Nat) (hk : k < 20) : ma_iv g q k i f = ma_iv g q' k i f := by
  unfold ma_iv
  rw [if_pos hk, if_pos hk]
/-- a new array, and its place in the object -/
theorem rj_step {tys : List (ClassId × FieldType)} {ad : mg_Ad} (g : ca_S) (j f : Nat) (hf : rb_fd f = some (21 + j, 0)) (hu : ∀ c x, rb_fd c = some x → x.1 = 21 + j → c = f) : mr_C tys ma_sh ad (mr_sR (mr_nw (ma_R g (rj j)) (21 + j)) 20 0 f (some (21 + j, 0))) = mr_C tys ma_sh ad (ma_R g (rj (j + 1))) := by
  have p0 : mr_pn (ma_R g (rj j)) (21 + j) = 0 := by rw [rj_pn g _ _ (by omega), if_neg (by omega)]
  refine mr_Ceq (fun k => ?_) (fun k i c hi => ?_) (fun k i c hi => ?_) (fun k i c hi => ?_)
  · show (if k = 21 + j then mr_pn (ma_R g (rj j)) (21 + j) + 1 else mr_pn (ma_R g (rj j)) k) = _
    rw [p0]
    by_cases hk : k < 20
    · rw [if_neg (by omega)]
      exact ma_pn20 g _ _ k hk
    · rw [rj_pn g _ _ (by omega), rj_pn g _ _ (by omega)]
      by_cases hj : k = 21 + j
      · rw [if_pos hj, if_pos (by omega)]
      · rw [if_neg hj]
        by_cases h2 : k < 21 + j
        · rw [if_pos h2, if_pos (by omega)]
        · rw [if_neg h2, if_neg (by omega)]
  · show (if k = 21 + j ∧ i = mr_pn (ma_R g (rj j)) (21 + j) then 0 else ma_iv g (rj j) k i c) = ma_iv g (rj (j + 1)) k i c
    by_cases hk : k < 20
    · rw [if_neg (by omega)]
      exact ma_ivl g _ _ k i c hk
    · rw [ma_iv20 g _ _ _ _ (by omega), ma_iv20 g _ _ _ _ (by omega)]
      show (if _ then (0 : Int32) else 0) = 0
      split <;> rfl
  · show (if k = 21 + j ∧ i = mr_pn (ma_R g (rj j)) (21 + j) then 0 else ma_lv (rj j) k i c) = ma_lv (rj (j + 1)) k i c
    have z : ∀ n, ma_lv (rj n) k i c = 0 := fun n => by unfold ma_lv; split <;> rfl
    rw [z, z]
    split <;> rfl
  · show mr_u3 (fun a b c => if a = 21 + j ∧ b = mr_pn (ma_R g (rj j)) (21 + j) then none else ma_rv g (rj j) a b c) 20 0 f (some (21 + j, 0)) k i c = ma_rv g (rj (j + 1)) k i c
    by_cases hz : k = 20 ∧ i = 0 ∧ c = f
    · obtain ⟨rfl, rfl, rfl⟩ := hz
      rw [mr_u3_s, ma_rv20 g _ _ _ _ (by omega)]
      show _ = (if (20 : Nat) = 20 then (match rb_fd c with | some x => if x.1 < 21 + (j + 1) then some x else none | none => none) else none)
      rw [if_pos rfl, hf]
      show _ = if 21 + j < 21 + (j + 1) then some (21 + j, 0) else none
      rw [if_pos (by omega)]
    · rw [mr_u3_n _ _ _ _ _ hz]
      show (if k = 21 + j ∧ i = mr_pn (ma_R g (rj j)) (21 + j) then none else ma_rv g (rj j) k i c) = _
      by_cases hk : k < 20
      · rw [if_neg (by omega)]
        exact ma_rvl g _ _ k i c hk
      · rw [ma_rv20 g _ _ _ _ (by omega), ma_rv20 g _ _ _ _ (by omega)]
        show (if k = 21 + j ∧ i = mr_pn (ma_R g (rj j)) (21 + j) then none else if k = 20 then (match rb_fd c with | some x => if x.1 < 21 + j then some x else none | none => none) else none) = if k = 20 then (match rb_fd c with | some x => if x.1 < 21 + (j + 1) then some x else none | none => none) else none
        by_cases h20 : k = 20
        · subst h20
          rw [if_neg (by omega), if_pos rfl, if_pos rfl]
          have hi0 : i = 0 := by
            rw [rj_pn g _ _ (by omega), if_pos (by omega)] at hi
            omega
          cases e : rb_fd c with
          | none => rfl
          | some x =>
            show (if x.1 < 21 + j then some x else none) = if x.1 < 21 + (j + 1) then some x else none
            have hne : x.1 ≠ 21 + j := fun hx => hz ⟨rfl, hi0, hu c x e hx⟩
            by_cases hl : x.1 < 21 + j
            · rw [if_pos hl, if_pos (by omega)]
            · rw [if_neg hl, if_neg (by omega)]
        · rw [if_neg h20, if_neg h20]
          split <;> rfl
theorem rj_end {tys : List (ClassId × FieldType)} {ad : mg_Ad} (g : ca_S) : mr_C tys ma_sh ad (mr_nw (ma_R g (rj 17)) 40) = mr_C tys ma_sh ad (ma_R g (rb_R (fun _ _ => 0) 0)) := by
  have p0 : mr_pn (ma_R g (rj 17)) 40 = 0 := rfl
  have pb : ∀ k, 20 ≤ k → mr_pn (ma_R g (rb_R (fun _ _ => 0) 0)) k = if k < 38 then 1 else if k = 40 then 1 else 0 := fun k hk => by
    show ma_pn g (rb_R (fun _ _ => 0) 0) k = _
    unfold ma_pn
    rw [if_neg (by omega), if_neg (by omega), if_neg (by omega), if_neg (by omega), if_neg (by omega)]
    rfl
  refine mr_Ceq (fun k => ?_) (fun k i c hi => ?_) (fun k i c hi => ?_) (fun k i c hi => ?_)
  · show (if k = 40 then mr_pn (ma_R g (rj 17)) 40 + 1 else mr_pn (ma_R g (rj 17)) k) = _
    rw [p0]
    by_cases hk : k < 20
    · rw [if_neg (by omega)]
      exact ma_pn20 g _ _ k hk
    · rw [rj_pn g _ _ (by omega), pb k (by omega)]
      by_cases hj : k = 40
      · rw [if_pos hj, if_neg (by omega), if_pos hj]
      · rw [if_neg hj, if_neg hj]
  · show (if k = 40 ∧ i = mr_pn (ma_R g (rj 17)) 40 then 0 else ma_iv g (rj 17) k i c) = ma_iv g (rb_R (fun _ _ => 0) 0) k i c
    by_cases hk : k < 20
    · rw [if_neg (by omega)]
      exact ma_ivl g _ _ k i c hk
    · rw [ma_iv20 g _ _ _ _ (by omega), ma_iv20 g _ _ _ _ (by omega)]
      show (if _ then (0 : Int32) else 0) = if i = 0 then 0 else 0
      split <;> split <;> rfl
  · show (if k = 40 ∧ i = mr_pn (ma_R g (rj 17)) 40 then 0 else ma_lv (rj 17) k i c) = ma_lv (rb_R (fun _ _ => 0) 0) k i c
    have z : ma_lv (rj 17) k i c = 0 := by unfold ma_lv; split <;> rfl
    have z2 : ma_lv (rb_R (fun _ _ => 0) 0) k i c = 0 := by
      unfold ma_lv
      split
      · rfl
      · show (if k = 40 ∧ i = 0 ∧ c = 0 then (0 : Int64) else 0) = 0
        split <;> rfl
    rw [z, z2]
    split <;> rfl
  · show (if k = 40 ∧ i = mr_pn (ma_R g (rj 17)) 40 then none else ma_rv g (rj 17) k i c) = ma_rv g (rb_R (fun _ _ => 0) 0) k i c
    by_cases hk : k < 20
    · rw [if_neg (by omega)]
      exact ma_rvl g _ _ k i c hk
    · rw [ma_rv20 g _ _ _ _ (by omega), ma_rv20 g _ _ _ _ (by omega)]
      show (if k = 40 ∧ i = mr_pn (ma_R g (rj 17)) 40 then none else if k = 20 then (match rb_fd c with | some x => if x.1 < 21 + 17 then some x else none | none => none) else none) = if k = 20 then rb_fd c else none
      by_cases h20 : k = 20
      · rw [if_neg (by omega), if_pos h20, if_pos h20]
        cases e : rb_fd c with
        | none => rfl
        | some x =>
          show (if x.1 < 21 + 17 then some x else none) = _
          rw [if_pos (by have := (rb_fd_c e).2.2; omega)]
      · rw [if_neg h20, if_neg h20]
        split <;> rfl
theorem rb_fd_u {f c j : Nat} {x : Nat × Nat} (hf : rb_fd f = some (21 + j, 0)) (hc : rb_fd c = some x) (hx : x.1 = 21 + j) : c = f := by
  unfold rb_fd at hf hc
  split at hf <;> first | (cases hf; done) | (split at hc <;> first | (cases hc; done) | (cases hc; simp only [Option.some.injEq, Prod.mk.injEq] at hf; first | rfl | (exfalso; omega)))
section RB7
variable {l : Launch} {D : va_G} {Z : Nat × Cell} {tys : List (ClassId × FieldType)} {ad : mg_Ad}
theorem ct_B_init (hty : tys.map (·.2) = ma_ty) (g : ca_S) (hok : ca_ok g) : mr_MA l my_B_init mc_B_init 1 none 1 17 1301 D mn_cl Z mb_B tys ma_sh [va_rf (some (ad 20 0))] ad (ma_R g (rj 0)) none (ma_R g (rj 17)) := by
  refine mg_M.of (cc := mc_B_init) (maxL := 1) (ret := none) (by decide) rfl (Nat.le_of_ble_eq_true rfl) (mg_caS rfl mg_ca0) ?_
  intro p e s m args below meth c K hret hlk hnm hA
  refine mg_aload_n K md_B_init_0 rfl ?_
  refine mg_objInit K md_B_init_1 ms_B_1 mb_oi.1 mb_oi.2 (by decide) (by decide) ?_
  refine mg_aload_n K md_B_init_4 rfl ?_
  refine mg_bipush K (v := 16) md_B_init_5 (by decide) ?_
  refine mr_newI (N' := 16) K 21 hA (ma_wf hok (rj_hq 0)) rfl (ma_t hty 4) md_B_init_7 mb_ar_int rfl rfl (by decide) (by decide) (by decide) (by decide) (by decide) (fun a0 ha0 => ?_)
  rw [← ha0 20 0 Nat.zero_lt_one]
  refine mr_putFS (k2 := 21) (i2 := 0) K hnm mf_B_7 md_B_init_9 Nat.zero_lt_one (mr_nfa _) ?_
  refine mg_eqC2 (rj_step g 0 2 rfl (fun c x hc hx => rb_fd_u (j := 0) rfl hc hx)) ?_
  refine mg_aload_n K md_B_init_12 rfl ?_
  refine mg_bipush K (v := 16) md_B_init_13 (by decide) ?_
  refine mr_newI (N' := 16) K 22 hA (ma_wf hok (rj_hq 1)) rfl (ma_t hty 4) md_B_init_15 mb_ar_int rfl rfl (by decide) (by decide) (by decide) (by decide) (by decide) (fun a1 ha1 => ?_)
  rw [← ha1 20 0 Nat.zero_lt_one]
  refine mr_putFS (k2 := 22) (i2 := 0) K hnm mf_B_13 md_B_init_17 Nat.zero_lt_one (mr_nfa _) ?_
  refine mg_eqC2 (rj_step g 1 3 rfl (fun c x hc hx => rb_fd_u (j := 1) rfl hc hx)) ?_
  refine mg_aload_n K md_B_init_20 rfl ?_
  refine mg_bipush K (v := 16) md_B_init_21 (by decide) ?_
  refine mr_newI (N' := 16) K 23 hA (ma_wf hok (rj_hq 2)) rfl (ma_t hty 4) md_B_init_23 mb_ar_int rfl rfl (by decide) (by decide) (by decide) (by decide) (by decide) (fun a2 ha2 => ?_)
  rw [← ha2 20 0 Nat.zero_lt_one]
  refine mr_putFS (k2 := 23) (i2 := 0) K hnm mf_B_16 md_B_init_25 Nat.zero_lt_one (mr_nfa _) ?_
  refine mg_eqC2 (rj_step g 2 4 rfl (fun c x hc hx => rb_fd_u (j := 2) rfl hc hx)) ?_
  refine mg_aload_n K md_B_init_28 rfl ?_
  refine mg_bipush K (v := 96) md_B_init_29 (by decide) ?_
  refine mr_newI (N' := 96) K 24 hA (ma_wf hok (rj_hq 3)) rfl (ma_t hty 2) md_B_init_31 mb_ar_boolean rfl rfl (by decide) (by decide) (by decide) (by decide) (by decide) (fun a3 ha3 => ?_)
  rw [← ha3 20 0 Nat.zero_lt_one]
  refine mr_putFS (k2 := 24) (i2 := 0) K hnm mf_B_19 md_B_init_33 Nat.zero_lt_one (mr_nfa _) ?_
  refine mg_eqC2 (rj_step g 3 5 rfl (fun c x hc hx => rb_fd_u (j := 3) rfl hc hx)) ?_
  refine mg_aload_n K md_B_init_36 rfl ?_
  refine mg_bipush K (v := 96) md_B_init_37 (by decide) ?_
  refine mr_newI (N' := 96) K 25 hA (ma_wf hok (rj_hq 4)) rfl (ma_t hty 2) md_B_init_39 mb_ar_boolean rfl rfl (by decide) (by decide) (by decide) (by decide) (by decide) (fun a4 ha4 => ?_)
  rw [← ha4 20 0 Nat.zero_lt_one]
  refine mr_putFS (k2 := 25) (i2 := 0) K hnm mf_B_23 md_B_init_41 Nat.zero_lt_one (mr_nfa _) ?_
  refine mg_eqC2 (rj_step g 4 6 rfl (fun c x hc hx => rb_fd_u (j := 4) rfl hc hx)) ?_
  refine mg_aload_n K md_B_init_44 rfl ?_
  refine mg_bipush K (v := 96) md_B_init_45 (by decide) ?_
  refine mr_newI (N' := 96) K 26 hA (ma_wf hok (rj_hq 5)) rfl (ma_t hty 4) md_B_init_47 mb_ar_int rfl rfl (by decide) (by decide) (by decide) (by decide) (by decide) (fun a5 ha5 => ?_)
  rw [← ha5 20 0 Nat.zero_lt_one]
  refine mr_putFS (k2 := 26) (i2 := 0) K hnm mf_B_26 md_B_init_49 Nat.zero_lt_one (mr_nfa _) ?_
  refine mg_eqC2 (rj_step g 5 7 rfl (fun c x hc hx => rb_fd_u (j := 5) rfl hc hx)) ?_
  refine mg_aload_n K md_B_init_52 rfl ?_
  refine mg_bipush K (v := 96) md_B_init_53 (by decide) ?_
  refine mr_newI (N' := 96) K 27 hA (ma_wf hok (rj_hq 6)) rfl (ma_t hty 4) md_B_init_55 mb_ar_int rfl rfl (by decide) (by decide) (by decide) (by decide) (by decide) (fun a6 ha6 => ?_)
  rw [← ha6 20 0 Nat.zero_lt_one]
  refine mr_putFS (k2 := 27) (i2 := 0) K hnm mf_B_29 md_B_init_57 Nat.zero_lt_one (mr_nfa _) ?_
  refine mg_eqC2 (rj_step g 6 8 rfl (fun c x hc hx => rb_fd_u (j := 6) rfl hc hx)) ?_
  refine mg_aload_n K md_B_init_60 rfl ?_
  refine mg_bipush K (v := 96) md_B_init_61 (by decide) ?_
  refine mr_newI (N' := 96) K 28 hA (ma_wf hok (rj_hq 7)) rfl (ma_t hty 4) md_B_init_63 mb_ar_int rfl rfl (by decide) (by decide) (by decide) (by decide) (by decide) (fun a7 ha7 => ?_)
  rw [← ha7 20 0 Nat.zero_lt_one]
  refine mr_putFS (k2 := 28) (i2 := 0) K hnm mf_B_32 md_B_init_65 Nat.zero_lt_one (mr_nfa _) ?_
  refine mg_eqC2 (rj_step g 7 9 rfl (fun c x hc hx => rb_fd_u (j := 7) rfl hc hx)) ?_
  refine mg_aload_n K md_B_init_68 rfl ?_
  refine mg_bipush K (v := 96) md_B_init_69 (by decide) ?_
  refine mr_newI (N' := 96) K 29 hA (ma_wf hok (rj_hq 8)) rfl (ma_t hty 4) md_B_init_71 mb_ar_int rfl rfl (by decide) (by decide) (by decide) (by decide) (by decide) (fun a8 ha8 => ?_)
  rw [← ha8 20 0 Nat.zero_lt_one]
  refine mr_putFS (k2 := 29) (i2 := 0) K hnm mf_B_35 md_B_init_73 Nat.zero_lt_one (mr_nfa _) ?_
  refine mg_eqC2 (rj_step g 8 10 rfl (fun c x hc hx => rb_fd_u (j := 8) rfl hc hx)) ?_
  refine mg_aload_n K md_B_init_76 rfl ?_
  refine mg_bipush K (v := 96) md_B_init_77 (by decide) ?_
  refine mr_newI (N' := 96) K 30 hA (ma_wf hok (rj_hq 9)) rfl (ma_t hty 4) md_B_init_79 mb_ar_int rfl rfl (by decide) (by decide) (by decide) (by decide) (by decide) (fun a9 ha9 => ?_)
  rw [← ha9 20 0 Nat.zero_lt_one]
  refine mr_putFS (k2 := 30) (i2 := 0) K hnm mf_B_38 md_B_init_81 Nat.zero_lt_one (mr_nfa _) ?_
  refine mg_eqC2 (rj_step g 9 11 rfl (fun c x hc hx => rb_fd_u (j := 9) rfl hc hx)) ?_
  refine mg_aload_n K md_B_init_84 rfl ?_
  refine mg_bipush K (v := 96) md_B_init_85 (by decide) ?_
  refine mr_newI (N' := 96) K 31 hA (ma_wf hok (rj_hq 10)) rfl (ma_t hty 4) md_B_init_87 mb_ar_int rfl rfl (by decide) (by decide) (by decide) (by decide) (by decide) (fun a10 ha10 => ?_)
  rw [← ha10 20 0 Nat.zero_lt_one]
  refine mr_putFS (k2 := 31) (i2 := 0) K hnm mf_B_41 md_B_init_89 Nat.zero_lt_one (mr_nfa _) ?_
  refine mg_eqC2 (rj_step g 10 12 rfl (fun c x hc hx => rb_fd_u (j := 10) rfl hc hx)) ?_
  refine mg_aload_n K md_B_init_92 rfl ?_
  refine mg_bipush K (v := 96) md_B_init_93 (by decide) ?_
  refine mr_newI (N' := 96) K 32 hA (ma_wf hok (rj_hq 11)) rfl (ma_t hty 4) md_B_init_95 mb_ar_int rfl rfl (by decide) (by decide) (by decide) (by decide) (by decide) (fun a11 ha11 => ?_)
  rw [← ha11 20 0 Nat.zero_lt_one]
  refine mr_putFS (k2 := 32) (i2 := 0) K hnm mf_B_44 md_B_init_97 Nat.zero_lt_one (mr_nfa _) ?_
  refine mg_eqC2 (rj_step g 11 13 rfl (fun c x hc hx => rb_fd_u (j := 11) rfl hc hx)) ?_
  refine mg_aload_n K md_B_init_100 rfl ?_
  refine mg_bipush K (v := 96) md_B_init_101 (by decide) ?_
  refine mr_newI (N' := 96) K 33 hA (ma_wf hok (rj_hq 12)) rfl (ma_t hty 2) md_B_init_103 mb_ar_boolean rfl rfl (by decide) (by decide) (by decide) (by decide) (by decide) (fun a12 ha12 => ?_)
  rw [← ha12 20 0 Nat.zero_lt_one]
  refine mr_putFS (k2 := 33) (i2 := 0) K hnm mf_B_47 md_B_init_105 Nat.zero_lt_one (mr_nfa _) ?_
  refine mg_eqC2 (rj_step g 12 14 rfl (fun c x hc hx => rb_fd_u (j := 12) rfl hc hx)) ?_
  refine mg_aload_n K md_B_init_108 rfl ?_
  refine mg_bipush K (v := 96) md_B_init_109 (by decide) ?_
  refine mr_newI (N' := 96) K 34 hA (ma_wf hok (rj_hq 13)) rfl (ma_t hty 4) md_B_init_111 mb_ar_int rfl rfl (by decide) (by decide) (by decide) (by decide) (by decide) (fun a13 ha13 => ?_)
  rw [← ha13 20 0 Nat.zero_lt_one]
  refine mr_putFS (k2 := 34) (i2 := 0) K hnm mf_B_50 md_B_init_113 Nat.zero_lt_one (mr_nfa _) ?_
  refine mg_eqC2 (rj_step g 13 15 rfl (fun c x hc hx => rb_fd_u (j := 13) rfl hc hx)) ?_
  refine mg_aload_n K md_B_init_116 rfl ?_
  refine mg_iconst K (v := 5) md_B_init_117 (by decide) ?_
  refine mr_newI (N' := 5) K 35 hA (ma_wf hok (rj_hq 14)) rfl (ma_t hty 2) md_B_init_118 mb_ar_boolean rfl rfl (by decide) (by decide) (by decide) (by decide) (by decide) (fun a14 ha14 => ?_)
  rw [← ha14 20 0 Nat.zero_lt_one]
  refine mr_putFS (k2 := 35) (i2 := 0) K hnm mf_B_53 md_B_init_120 Nat.zero_lt_one (mr_nfa _) ?_
  refine mg_eqC2 (rj_step g 14 17 rfl (fun c x hc hx => rb_fd_u (j := 14) rfl hc hx)) ?_
  refine mg_aload_n K md_B_init_123 rfl ?_
  refine mg_bipush K (v := 96) md_B_init_124 (by decide) ?_
  refine mr_newI (N' := 96) K 36 hA (ma_wf hok (rj_hq 15)) rfl (ma_t hty 4) md_B_init_126 mb_ar_int rfl rfl (by decide) (by decide) (by decide) (by decide) (by decide) (fun a15 ha15 => ?_)
  rw [← ha15 20 0 Nat.zero_lt_one]
  refine mr_putFS (k2 := 36) (i2 := 0) K hnm mf_B_56 md_B_init_128 Nat.zero_lt_one (mr_nfa _) ?_
  refine mg_eqC2 (rj_step g 15 19 rfl (fun c x hc hx => rb_fd_u (j := 15) rfl hc hx)) ?_
  refine mg_aload_n K md_B_init_131 rfl ?_
  refine mg_bipush K (v := 96) md_B_init_132 (by decide) ?_
  refine mr_newI (N' := 96) K 37 hA (ma_wf hok (rj_hq 16)) rfl (ma_t hty 4) md_B_init_134 mb_ar_int rfl rfl (by decide) (by decide) (by decide) (by decide) (by decide) (fun a16 ha16 => ?_)
  rw [← ha16 20 0 Nat.zero_lt_one]
  refine mr_putFS (k2 := 37) (i2 := 0) K hnm mf_B_59 md_B_init_136 Nat.zero_lt_one (mr_nfa _) ?_
  refine mg_eqC2 (rj_step g 16 21 rfl (fun c x hc hx => rb_fd_u (j := 16) rfl hc hx)) ?_
  exact mg_vret K hret hlk md_B_init_139 (by decide) (by decide) ⟨rfl, fun a b hb => ((ha16 a b (rj_mono hb)).trans ((ha15 a b (rj_mono hb)).trans ((ha14 a b (rj_mono hb)).trans ((ha13 a b (rj_mono hb)).trans ((ha12 a b (rj_mono hb)).trans ((ha11 a b (rj_mono hb)).trans ((ha10 a b (rj_mono hb)).trans ((ha9 a b (rj_mono hb)).trans ((ha8 a b (rj_mono hb)).trans ((ha7 a b (rj_mono hb)).trans ((ha6 a b (rj_mono hb)).trans ((ha5 a b (rj_mono hb)).trans ((ha4 a b (rj_mono hb)).trans ((ha3 a b (rj_mono hb)).trans ((ha2 a b (rj_mono hb)).trans ((ha1 a b (rj_mono hb)).trans (ha0 a b hb))))))))))))))))), rfl⟩
end RB7
