/-! the class's constructors -/
theorem mr_sI_id {r : mr_St} {k i f : Nat} {v : Int32} (h : mr_iv r k i f = v) : mr_sI r k i f v = r := by
  refine Prod.ext ?_ rfl
  funext a b c
  show mr_u3 r.1 k i f v a b c = r.1 a b c
  by_cases hz : a = k ∧ b = i ∧ c = f
  · obtain ⟨rfl, rfl, rfl⟩ := hz
    rw [mr_u3_s]
    exact h.symm
  · exact mr_u3_n _ _ _ _ _ hz
theorem mr_nw_le (r : mr_St) (k a : Nat) : mr_pn r a ≤ mr_pn (mr_nw r k) a := by
  rw [mr_nw_pn]
  split
  · next h => rw [h]; omega
  · exact Nat.le_refl _
def ci_rv (n1 n2 n3 nl ns nu : Nat) (q : mr_St) (k i f : Nat) : Option (Nat × Nat) :=
  if k = 0 then (if f = 0 then (if n1 = 1 then some (1, 0) else none) else if f = 1 then (if n2 = 1 then some (2, 0) else none) else if f = 2 then (if n3 = 1 then some (3, 0) else none) else if f < 3 + nl then some (8, f - 3) else none)
  else if k = 1 then (if f < ns then some (4, f) else none)
  else if k = 2 then (if f < nu then some (7, f) else none)
  else if k = 4 then (if f = 0 then some (5, i) else if f = 1 then some (6, i) else none)
  else if k = 8 then (if f = 0 then some (9, i) else none)
  else if k < 20 then none else mr_rv q k i f
def ci_pn (n1 n2 n3 nl ns nu : Nat) (q : mr_St) (k : Nat) : Nat :=
  if k = 0 then 1 else if k = 1 then n1 else if k = 2 then n2 else if k = 3 then n3 else if k = 4 then ns else if k = 5 then ns else if k = 6 then ns else if k = 7 then nu else if k = 8 then nl else if k = 9 then nl else if k < 20 then 0 else mr_pn q k
def ci (n1 n2 n3 nl ns nu : Nat) (q : mr_St) : mr_St := (fun k i f => if k < 20 then 0 else mr_iv q k i f, ma_lv q, ci_rv n1 n2 n3 nl ns nu q, ci_pn n1 n2 n3 nl ns nu q)
theorem ci_iv0 {n1 n2 n3 nl ns nu : Nat} {q : mr_St} {k i f : Nat} (h : k < 20) : mr_iv (ci n1 n2 n3 nl ns nu q) k i f = 0 := if_pos h
theorem ci_wf {n1 n2 n3 nl ns nu : Nat} {q : mr_St} (h4 : nl ≤ 4) (h1 : n1 ≤ 1) (hq : ∀ k i f x, 20 ≤ k → i < mr_pn q k → mr_rv q k i f = some x → x.2 < mr_pn q x.1 ∧ 20 ≤ x.1) : mr_wf (ci n1 n2 n3 nl ns nu q) := by
  intro k i f x hi hx
  change i < ci_pn n1 n2 n3 nl ns nu q k at hi
  change ci_rv n1 n2 n3 nl ns nu q k i f = some x at hx
  show x.2 < ci_pn n1 n2 n3 nl ns nu q x.1
  unfold ci_rv at hx
  by_cases k0 : k = 0
  · subst k0
    rw [if_pos rfl] at hx
    split at hx
    · split at hx
      · next h => cases hx; show 0 < n1; omega
      · cases hx
    · split at hx
      · split at hx
        · next h => cases hx; show 0 < n2; omega
        · cases hx
      · split at hx
        · split at hx
          · next h => cases hx; show 0 < n3; omega
          · cases hx
        · split at hx
          · next hf => cases hx; show f - 3 < nl; omega
          · cases hx
  rw [if_neg k0] at hx
  by_cases k1 : k = 1
  · rw [if_pos k1] at hx
    split at hx
    · cases hx; assumption
    · cases hx
  rw [if_neg k1] at hx
  by_cases k2 : k = 2
  · rw [if_pos k2] at hx
    split at hx
    · cases hx; assumption
    · cases hx
  rw [if_neg k2] at hx
  by_cases k4 : k = 4
  · subst k4
    rw [if_pos rfl] at hx
    split at hx
    · cases hx; exact hi
    · split at hx
      · cases hx; exact hi
      · cases hx
  rw [if_neg k4] at hx
  by_cases k8 : k = 8
  · subst k8
    rw [if_pos rfl] at hx
    split at hx
    · cases hx; exact hi
    · cases hx
  rw [if_neg k8] at hx
  by_cases k20 : k < 20
  · rw [if_pos k20] at hx; cases hx
  rw [if_neg k20] at hx
  have hp : ∀ z, 20 ≤ z → ci_pn n1 n2 n3 nl ns nu q z = mr_pn q z := fun z hz => by
    unfold ci_pn
    rw [if_neg (by omega), if_neg (by omega), if_neg (by omega), if_neg (by omega), if_neg (by omega), if_neg (by omega), if_neg (by omega), if_neg (by omega), if_neg (by omega), if_neg (by omega), if_neg (by omega)]
  rw [hp k (by omega)] at hi
  obtain ⟨g1, g2⟩ := hq k i f x (by omega) hi hx
  rw [hp _ g2]
  exact g1
def ca_init : ca_S := (fun _ _ _ => 0, fun _ _ => none, fun _ => 0, fun _ => [], 0)
theorem ca_init_ok : ca_ok ca_init := ⟨fun _ _ _ h => (by cases h), fun _ _ h => (by cases h), fun _ => Nat.zero_le _, fun _ h => absurd h (Nat.not_lt_zero _)⟩
theorem ci_end {tys : List (ClassId × FieldType)} {ad : mg_Ad} (q : mr_St) : mr_C tys ma_sh ad (ci 1 1 1 4 4 16 q) = mr_C tys ma_sh ad (ma_R ca_init q) := by
  have hpn : ∀ k, ci_pn 1 1 1 4 4 16 q k = ma_pn ca_init q k := by
    intro k
    unfold ci_pn ma_pn
    by_cases h20 : k < 20
    · match k, h20 with
      | 0, _ | 1, _ | 2, _ | 3, _ | 4, _ | 5, _ | 6, _ | 7, _ | 8, _ | 9, _ | 10, _ | 11, _ | 12, _ | 13, _ | 14, _ | 15, _ | 16, _ | 17, _ | 18, _ | 19, _ => rfl
      | _ + 20, h => exact absurd h (by omega)
    · rw [if_neg (by omega), if_neg (by omega), if_neg (by omega), if_neg (by omega), if_neg (by omega), if_neg (by omega), if_neg (by omega), if_neg (by omega), if_neg (by omega), if_neg (by omega), if_neg h20, if_neg (by omega), if_neg (by omega), if_neg (by omega), if_neg (by omega)]
  refine mr_Ceq hpn (fun k i f h => ?_) (fun k i f h => rfl) (fun k i f h => ?_)
  · show (if k < 20 then 0 else mr_iv q k i f) = ma_iv ca_init q k i f
    unfold ma_iv
    by_cases h8 : k = 8
    · subst h8
      have e : (if f = 1 then Int32.ofNat (ca_ln ca_init i).length else (0 : Int32)) = 0 := by split <;> rfl
      rw [if_pos rfl, e]
      rfl
    · rw [if_neg h8]
      rfl
  · show ci_rv 1 1 1 4 4 16 q k i f = ma_rv ca_init q k i f
    unfold ci_rv ma_rv
    by_cases k0 : k = 0
    · rw [if_pos k0, if_pos k0]; rfl
    rw [if_neg k0, if_neg k0]
    by_cases k1 : k = 1
    · rw [if_pos k1, if_pos k1]
    rw [if_neg k1, if_neg k1]
    by_cases k2 : k = 2
    · rw [if_pos k2, if_pos k2]
    rw [if_neg k2, if_neg k2]
    by_cases k4 : k = 4
    · rw [if_pos k4, if_pos k4]
    rw [if_neg k4, if_neg k4]
    by_cases k5 : k = 5
    · subst k5; rfl
    rw [if_neg k5]
    by_cases k8 : k = 8
    · rw [if_pos k8, if_pos k8]
    rw [if_neg k8, if_neg k8]
    by_cases k9 : k = 9
    · subst k9; rfl
    rw [if_neg k9]
    by_cases k10 : k = 10
    · subst k10
      exact absurd h (Nat.not_lt_zero _)
    rw [if_neg k10]
/-- a reference is put where nothing was; a new one is there: what of it matters -/
theorem ci_step {tys : List (ClassId × FieldType)} {ad : mg_Ad} {r r' : mr_St} (hp : ∀ k, mr_pn r k = mr_pn r' k) (hi : mr_iv r = mr_iv r') (hl : mr_lv r = mr_lv r') (hr : ∀ k i f, i < mr_pn r' k → mr_rv r k i f = mr_rv r' k i f) : mr_C tys ma_sh ad r = mr_C tys ma_sh ad r' :=
  mr_Ceq hp (fun _ _ _ _ => by rw [hi]) (fun _ _ _ _ => by rw [hl]) hr
section CC1
variable {l : Launch} {D : va_G} {Z : Nat × Cell} {tys : List (ClassId × FieldType)} {ad : mg_Ad}
theorem ct_U_init (r : mr_St) {i : Nat} (hi : i < mr_pn r 7) (h0 : ∀ f, mr_iv r 7 i f = 0) : mr_M l my_U_init mc_U_init 1 none 1 D mn_cl Z mb_B tys ma_sh [va_rf (some (ad 7 i))] ad r none r := by
  refine mg_M.of (cc := mc_U_init) (maxL := 1) (ret := none) (by decide) rfl (Nat.le_of_ble_eq_true rfl) (mg_caS rfl mg_ca0) ?_
  intro p e s m args below meth c K hret hlk hnm hA
  refine mg_aload_n K md_U_init_0 rfl ?_
  refine mg_objInit K md_U_init_1 ms_U_3 mb_oi.1 mb_oi.2 (by decide) (by decide) ?_
  refine mg_aload_n K md_U_init_4 rfl ?_
  refine mg_iconst K (v := 0) md_U_init_5 (by decide) ?_
  refine mr_putI K mf_U_9 md_U_init_6 hi ?_
  refine mr_eqr (mr_sI_id (h0 _)) ?_
  refine mg_aload_n K md_U_init_9 rfl ?_
  refine mg_iconst K (v := 0) md_U_init_10 (by decide) ?_
  refine mr_putI K mf_U_15 md_U_init_11 hi ?_
  refine mr_eqr (mr_sI_id (h0 _)) ?_
  refine mg_aload_n K md_U_init_14 rfl ?_
  refine mg_iconst K (v := 0) md_U_init_15 (by decide) ?_
  refine mr_putI K mf_U_18 md_U_init_16 hi ?_
  refine mr_eqr (mr_sI_id (h0 _)) ?_
  exact mg_vret K hret hlk md_U_init_19 (Nat.le_refl _) (Nat.le_refl _) ⟨rfl, rfl, rfl⟩
theorem ct_L_init (hty : tys.map (·.2) = ma_ty) (r : mr_St) {i : Nat} (hi : i < mr_pn r 8) (h0 : mr_iv r 8 i 1 = 0) (hwf : mr_wf r) : mr_MA l my_L_init mc_L_init 1 none 1 1 96 D mn_cl Z mb_B tys ma_sh [va_rf (some (ad 8 i))] ad r none (mr_sR (mr_nw r 9) 8 i 0 (some (9, mr_pn r 9))) := by
  refine mg_M.of (cc := mc_L_init) (maxL := 1) (ret := none) (by decide) rfl (Nat.le_of_ble_eq_true rfl) (mg_caS rfl mg_ca0) ?_
  intro p e s m args below meth c K hret hlk hnm hA
  refine mg_aload_n K md_L_init_0 rfl ?_
  refine mg_objInit K md_L_init_1 ms_L_3 mb_oi.1 mb_oi.2 (by decide) (by decide) ?_
  refine mg_aload_n K md_L_init_4 rfl ?_
  refine mg_bipush K (v := 96) md_L_init_5 (by decide) ?_
  refine mr_newR (N' := 96) K 9 hA hwf rfl (ma_t hty 3) md_L_init_7 mq_L_9.1 mq_L_9.2 (by decide) (by decide) (by decide) (by decide) (by decide) (fun ad' had => ?_)
  rw [← had 8 i hi]
  refine mr_putFS (k2 := 9) (i2 := mr_pn r 9) K hnm mf_L_11 md_L_init_10 hi (mr_nfa _) ?_
  refine mg_aload_n K md_L_init_13 rfl ?_
  refine mg_iconst K (v := 0) md_L_init_14 (by decide) ?_
  refine mr_putI K mf_L_17 md_L_init_15 hi ?_
  refine mr_eqr (mr_sI_id h0) ?_
  exact mg_vret K hret hlk md_L_init_18 (by decide) (by decide) ⟨rfl, had, rfl⟩
theorem ct_S_init (hty : tys.map (·.2) = ma_ty) (r : mr_St) {i : Nat} (hi : i < mr_pn r 4) (hwf : mr_wf r) : mr_MA l my_S_init mc_S_init 1 none 1 2 50 D mn_cl Z mb_B tys ma_sh [va_rf (some (ad 4 i))] ad r none (mr_sR (mr_nw (mr_sR (mr_nw r 5) 4 i 0 (some (5, mr_pn r 5))) 6) 4 i 1 (some (6, mr_pn r 6))) := by
  have hwf2 : mr_wf (mr_sR (mr_nw r 5) 4 i 0 (some (5, mr_pn r 5))) := (hwf.nw 5).sR 4 i 0 _ (fun q h => by cases h; show mr_pn r 5 < mr_pn (mr_nw r 5) 5; rw [mr_nw_pn, if_pos rfl]; omega)
  refine mg_M.of (cc := mc_S_init) (maxL := 1) (ret := none) (by decide) rfl (Nat.le_of_ble_eq_true rfl) (mg_caS rfl mg_ca0) ?_
  intro p e s m args below meth c K hret hlk hnm hA
  refine mg_aload_n K md_S_init_0 rfl ?_
  refine mg_objInit K md_S_init_1 ms_S_3 mb_oi.1 mb_oi.2 (by decide) (by decide) ?_
  refine mg_aload_n K md_S_init_4 rfl ?_
  refine mg_bipush K (v := 25) md_S_init_5 (by decide) ?_
  refine mr_newR (N' := 25) K 5 hA hwf rfl (ma_t hty 3) md_S_init_7 mq_S_9.1 mq_S_9.2 (by decide) (by decide) (by decide) (by decide) (by decide) (fun ad' had => ?_)
  rw [← had 4 i hi]
  refine mr_putFS (k2 := 5) (i2 := mr_pn r 5) K hnm mf_S_11 md_S_init_10 hi (mr_nfa _) ?_
  refine mg_aload_n K md_S_init_13 rfl ?_
  refine mg_bipush K (v := 25) md_S_init_14 (by decide) ?_
  refine mr_newI (N' := 25) K 6 hA hwf2 rfl (ma_t hty 2) md_S_init_16 mb_ar_boolean rfl rfl (by decide) (by decide) (by decide) (by decide) (by decide) (fun ad2 had2 => ?_)
  rw [← had2 4 i hi]
  refine mr_putFS (k2 := 6) (i2 := mr_pn r 6) K hnm mf_S_17 md_S_init_18 hi (mr_nfa _) ?_
  exact mg_vret K hret hlk md_S_init_21 (by decide) (by decide) ⟨rfl, fun a b hb => (had2 a b (Nat.lt_of_lt_of_le hb (mr_nw_le r 5 a))).trans (had a b hb), rfl⟩
theorem ci_mono {n1 n2 n3 nl ns nu : Nat} {q : mr_St} {a b : Nat} (h : b < mr_pn (ci 0 0 0 0 0 0 q) a) : b < mr_pn (ci n1 n2 n3 nl ns nu q) a := by
  change b < ci_pn 0 0 0 0 0 0 q a at h
  show b < ci_pn n1 n2 n3 nl ns nu q a
  unfold ci_pn at h ⊢
  by_cases h0 : a = 0
  · rw [if_pos h0] at h ⊢; exact h
  rw [if_neg h0] at h ⊢
  by_cases h1 : a = 1
  · rw [if_pos h1] at h; omega
  by_cases h2 : a = 2
  · rw [if_neg h1, if_pos h2] at h; omega
  by_cases h3 : a = 3
  · rw [if_neg h1, if_neg h2, if_pos h3] at h; omega
  by_cases h4 : a = 4
  · rw [if_neg h1, if_neg h2, if_neg h3, if_pos h4] at h; omega
  by_cases h5 : a = 5
  · rw [if_neg h1, if_neg h2, if_neg h3, if_neg h4, if_pos h5] at h; omega
  by_cases h6 : a = 6
  · rw [if_neg h1, if_neg h2, if_neg h3, if_neg h4, if_neg h5, if_pos h6] at h; omega
  by_cases h7 : a = 7
  · rw [if_neg h1, if_neg h2, if_neg h3, if_neg h4, if_neg h5, if_neg h6, if_pos h7] at h; omega
  by_cases h8 : a = 8
  · rw [if_neg h1, if_neg h2, if_neg h3, if_neg h4, if_neg h5, if_neg h6, if_neg h7, if_pos h8] at h; omega
  by_cases h9 : a = 9
  · rw [if_neg h1, if_neg h2, if_neg h3, if_neg h4, if_neg h5, if_neg h6, if_neg h7, if_neg h8, if_pos h9] at h; omega
  rw [if_neg h1, if_neg h2, if_neg h3, if_neg h4, if_neg h5, if_neg h6, if_neg h7, if_neg h8, if_neg h9] at h ⊢
  exact h
theorem ci_P0 {r q : mr_St} (k0 : Nat) (h0 : k0 < 20) (h : ∀ k i f, mr_iv r k i f = if k < 20 then 0 else mr_iv q k i f) : ∀ k i f, mr_iv (mr_nw r k0) k i f = if k < 20 then 0 else mr_iv q k i f := by
  intro k i f
  show (if k = k0 ∧ i = mr_pn r k0 then 0 else mr_iv r k i f) = _
  by_cases hz : k = k0 ∧ i = mr_pn r k0
  · rw [if_pos hz, hz.1, if_pos h0]
  · rw [if_neg hz]; exact h k i f
theorem ci_L0 {r q : mr_St} (k0 : Nat) (h0 : k0 < 20) (h : ∀ k i f, mr_lv r k i f = ma_lv q k i f) : ∀ k i f, mr_lv (mr_nw r k0) k i f = ma_lv q k i f := by
  intro k i f
  show (if k = k0 ∧ i = mr_pn r k0 then 0 else mr_lv r k i f) = _
  by_cases hz : k = k0 ∧ i = mr_pn r k0
  · rw [if_pos hz, hz.1]
    exact (if_pos h0).symm
  · rw [if_neg hz]; exact h k i f
theorem ci_x {q r : mr_St} {n1 n2 n3 nl ns nu : Nat} (hi : ∀ k i f, mr_iv r k i f = if k < 20 then 0 else mr_iv q k i f) (hl : ∀ k i f, mr_lv r k i f = ma_lv q k i f) (hp : ∀ k, mr_pn r k = ci_pn n1 n2 n3 nl ns nu q k) (hr : ∀ k i f, i < ci_pn n1 n2 n3 nl ns nu q k → mr_rv r k i f = ci_rv n1 n2 n3 nl ns nu q k i f) : mr_C tys ma_sh ad r = mr_C tys ma_sh ad (ci n1 n2 n3 nl ns nu q) :=
  mr_Ceq hp (fun k i f _ => hi k i f) (fun k i f _ => hl k i f) hr
theorem ci_I {n1 n2 n3 nl ns nu : Nat} {q : mr_St} : ∀ k i f, mr_iv (ci n1 n2 n3 nl ns nu q) k i f = if k < 20 then 0 else mr_iv q k i f := fun _ _ _ => rfl
theorem ci_J {n1 n2 n3 nl ns nu : Nat} {q : mr_St} : ∀ k i f, mr_lv (ci n1 n2 n3 nl ns nu q) k i f = ma_lv q k i f := fun _ _ _ => rfl
theorem ci_a1 {q : mr_St} : mr_C tys ma_sh ad (mr_sR (mr_nw (ci 0 0 0 0 0 0 q) 1) 0 0 0 (some (1, 0))) = mr_C tys ma_sh ad (ci 1 0 0 0 0 0 q) := by
  refine ci_x (ci_P0 1 (by decide) ci_I) (ci_L0 1 (by decide) ci_J) (fun k => ?_) (fun k i f h => ?_)
  · show (if k = 1 then ci_pn 0 0 0 0 0 0 q 1 + 1 else ci_pn 0 0 0 0 0 0 q k) = _
    by_cases hk : k = 1
    · subst hk; rfl
    · rw [if_neg hk]; unfold ci_pn; simp only [hk, if_false]
  · show mr_u3 (fun a b c => if a = 1 ∧ b = ci_pn 0 0 0 0 0 0 q 1 then none else ci_rv 0 0 0 0 0 0 q a b c) 0 0 0 (some (1, 0)) k i f = ci_rv 1 0 0 0 0 0 q k i f
    by_cases k0 : k = 0
    · subst k0
      have hi : i = 0 := by have h2 : i < 1 := h; omega
      subst hi
      by_cases hf : f = 0
      · subst hf; rw [mr_u3_s]; rfl
      · rw [mr_u3_n _ _ _ _ _ (fun z => hf z.2.2), if_neg (fun z => by cases z.1)]
        unfold ci_rv
        simp only [hf, if_false]
    · rw [mr_u3_n _ _ _ _ _ (fun z => k0 z.1)]
      by_cases hk : k = 1
      · subst hk
        have h2 : i < 1 := h
        rw [if_pos ⟨rfl, by show i = 0; omega⟩]
        rfl
      · rw [if_neg (fun z => hk z.1)]
        unfold ci_rv
        simp only [k0, if_false]
theorem ci_a2 {q : mr_St} : mr_C tys ma_sh ad (mr_sR (mr_nw (ci 1 0 0 0 0 0 q) 2) 0 0 1 (some (2, 0))) = mr_C tys ma_sh ad (ci 1 1 0 0 0 0 q) := by
  refine ci_x (ci_P0 2 (by decide) ci_I) (ci_L0 2 (by decide) ci_J) (fun k => ?_) (fun k i f h => ?_)
  · show (if k = 2 then ci_pn 1 0 0 0 0 0 q 2 + 1 else ci_pn 1 0 0 0 0 0 q k) = _
    by_cases hk : k = 2
    · subst hk; rfl
    · rw [if_neg hk]; unfold ci_pn; simp only [hk, if_false]
  · show mr_u3 (fun a b c => if a = 2 ∧ b = ci_pn 1 0 0 0 0 0 q 2 then none else ci_rv 1 0 0 0 0 0 q a b c) 0 0 1 (some (2, 0)) k i f = ci_rv 1 1 0 0 0 0 q k i f
    by_cases k0 : k = 0
    · subst k0
      have hi : i = 0 := by have h2 : i < 1 := h; omega
      subst hi
      by_cases hf : f = 1
      · subst hf; rw [mr_u3_s]; rfl
      · rw [mr_u3_n _ _ _ _ _ (fun z => hf z.2.2), if_neg (fun z => by cases z.1)]
        unfold ci_rv
        simp only [hf, if_false]
    · rw [mr_u3_n _ _ _ _ _ (fun z => k0 z.1)]
      by_cases hk : k = 2
      · subst hk
        have h2 : i < 1 := h
        rw [if_pos ⟨rfl, by show i = 0; omega⟩]
        rfl
      · rw [if_neg (fun z => hk z.1)]
        unfold ci_rv
        simp only [k0, if_false]
theorem ci_a3 {q : mr_St} : mr_C tys ma_sh ad (mr_sR (mr_nw (ci 1 1 0 0 0 0 q) 3) 0 0 2 (some (3, 0))) = mr_C tys ma_sh ad (ci 1 1 1 0 0 0 q) := by
  refine ci_x (ci_P0 3 (by decide) ci_I) (ci_L0 3 (by decide) ci_J) (fun k => ?_) (fun k i f h => ?_)
  · show (if k = 3 then ci_pn 1 1 0 0 0 0 q 3 + 1 else ci_pn 1 1 0 0 0 0 q k) = _
    by_cases hk : k = 3
    · subst hk; rfl
    · rw [if_neg hk]; unfold ci_pn; simp only [hk, if_false]
  · show mr_u3 (fun a b c => if a = 3 ∧ b = ci_pn 1 1 0 0 0 0 q 3 then none else ci_rv 1 1 0 0 0 0 q a b c) 0 0 2 (some (3, 0)) k i f = ci_rv 1 1 1 0 0 0 q k i f
    by_cases k0 : k = 0
    · subst k0
      have hi : i = 0 := by have h2 : i < 1 := h; omega
      subst hi
      by_cases hf : f = 2
      · subst hf; rw [mr_u3_s]; rfl
      · rw [mr_u3_n _ _ _ _ _ (fun z => hf z.2.2), if_neg (fun z => by cases z.1)]
        unfold ci_rv
        simp only [hf, if_false]
    · rw [mr_u3_n _ _ _ _ _ (fun z => k0 z.1)]
      by_cases hk : k = 3
      · subst hk
        have h2 : i < 1 := h
        rw [if_pos ⟨rfl, by show i = 0; omega⟩]
        rfl
      · rw [if_neg (fun z => hk z.1)]
        unfold ci_rv
        simp only [k0, if_false]
theorem ci_ln {q : mr_St} {n : Nat} (hn : n < 4) : mr_C tys ma_sh ad (mr_sR (mr_sR (mr_nw (mr_nw (ci 1 1 1 n 0 0 q) 8) 9) 8 n 0 (some (9, n))) 0 0 (3 + n) (some (8, n))) = mr_C tys ma_sh ad (ci 1 1 1 (n + 1) 0 0 q) := by
  refine ci_x (ci_P0 9 (by decide) (ci_P0 8 (by decide) ci_I)) (ci_L0 9 (by decide) (ci_L0 8 (by decide) ci_J)) (fun k => ?_) (fun k i f h => ?_)
  · show (if k = 9 then n + 1 else if k = 8 then n + 1 else ci_pn 1 1 1 n 0 0 q k) = _
    by_cases h9 : k = 9
    · subst h9; rfl
    by_cases h8 : k = 8
    · subst h8; rfl
    rw [if_neg h9, if_neg h8]; unfold ci_pn; simp only [h9, h8, if_false]
  · show mr_u3 (mr_u3 (fun a b c => if a = 9 ∧ b = n then none else if a = 8 ∧ b = n then none else ci_rv 1 1 1 n 0 0 q a b c) 8 n 0 (some (9, n))) 0 0 (3 + n) (some (8, n)) k i f = ci_rv 1 1 1 (n + 1) 0 0 q k i f
    by_cases k0 : k = 0
    · subst k0
      have hi : i = 0 := by have h2 : i < 1 := h; omega
      subst hi
      by_cases hf : f = 3 + n
      · subst hf
        rw [mr_u3_s]
        unfold ci_rv
        rw [if_pos rfl, if_neg (by omega), if_neg (by omega), if_neg (by omega), if_pos (by omega)]
        congr 2
        omega
      · rw [mr_u3_n _ _ _ _ _ (fun z => hf z.2.2), mr_u3_n _ _ _ _ _ (fun z => by cases z.1), if_neg (fun z => by cases z.1), if_neg (fun z => by cases z.1)]
        have hiff : (f < 3 + (n + 1)) = (f < 3 + n) := propext ⟨fun _ => by omega, fun _ => by omega⟩
        unfold ci_rv
        simp only [hiff]
    · rw [mr_u3_n _ _ _ _ _ (fun z => k0 z.1)]
      by_cases h8 : k = 8
      · subst h8
        have e : ∀ x, ci_rv 1 1 1 x 0 0 q 8 i f = if f = 0 then some (9, i) else none := fun _ => rfl
        by_cases hin : i = n
        · subst hin
          by_cases hf : f = 0
          · subst hf; rw [mr_u3_s]; rfl
          · rw [mr_u3_n _ _ _ _ _ (fun z => hf z.2.2), if_neg (fun z => by cases z.1), if_pos ⟨rfl, rfl⟩, e, if_neg hf]
        · rw [mr_u3_n _ _ _ _ _ (fun z => hin z.2.1), if_neg (fun z => by cases z.1), if_neg (fun z => hin z.2), e, e]
      · rw [mr_u3_n _ _ _ _ _ (fun z => h8 z.1)]
        by_cases h9 : k = 9
        · subst h9
          have e : ∀ x, ci_rv 1 1 1 x 0 0 q 9 i f = none := fun _ => rfl
          rw [e, e]
          split
          · rfl
          · split <;> rfl
        · rw [if_neg (fun z => h9 z.1), if_neg (fun z => h8 z.1)]
          unfold ci_rv
          simp only [k0, if_false]
theorem ci_sn {q : mr_St} {n : Nat} (hn : n < 4) : mr_C tys ma_sh ad (mr_sR (mr_sR (mr_nw (mr_sR (mr_nw (mr_nw (ci 1 1 1 4 n 0 q) 4) 5) 4 n 0 (some (5, n))) 6) 4 n 1 (some (6, n))) 1 0 n (some (4, n))) = mr_C tys ma_sh ad (ci 1 1 1 4 (n + 1) 0 q) := by
  refine ci_x (fun k i f => ci_P0 (r := mr_sR (mr_nw (mr_nw (ci 1 1 1 4 n 0 q) 4) 5) 4 n 0 (some (5, n))) 6 (by decide) (fun k i f => ci_P0 (r := mr_nw (ci 1 1 1 4 n 0 q) 4) 5 (by decide) (ci_P0 4 (by decide) ci_I) k i f) k i f) (fun k i f => ci_L0 (r := mr_sR (mr_nw (mr_nw (ci 1 1 1 4 n 0 q) 4) 5) 4 n 0 (some (5, n))) 6 (by decide) (fun k i f => ci_L0 (r := mr_nw (ci 1 1 1 4 n 0 q) 4) 5 (by decide) (ci_L0 4 (by decide) ci_J) k i f) k i f) (fun k => ?_) (fun k i f h => ?_)
  · show (if k = 6 then n + 1 else if k = 5 then n + 1 else if k = 4 then n + 1 else ci_pn 1 1 1 4 n 0 q k) = _
    by_cases h6 : k = 6
    · subst h6; rfl
    by_cases h5 : k = 5
    · subst h5; rfl
    by_cases h4 : k = 4
    · subst h4; rfl
    rw [if_neg h6, if_neg h5, if_neg h4]; unfold ci_pn; simp only [h6, h5, h4, if_false]
  · show mr_u3 (mr_u3 (fun a b c => if a = 6 ∧ b = n then none else mr_u3 (fun a b c => if a = 5 ∧ b = n then none else if a = 4 ∧ b = n then none else ci_rv 1 1 1 4 n 0 q a b c) 4 n 0 (some (5, n)) a b c) 4 n 1 (some (6, n))) 1 0 n (some (4, n)) k i f = ci_rv 1 1 1 4 (n + 1) 0 q k i f
    by_cases k1 : k = 1
    · subst k1
      have hi : i = 0 := by have h2 : i < 1 := h; omega
      subst hi
      have e : ∀ x, ci_rv 1 1 1 4 x 0 q 1 0 f = if f < x then some (4, f) else none := fun _ => rfl
      rw [e]
      by_cases hf : f = n
      · subst hf
        rw [mr_u3_s, if_pos (by omega)]
      · rw [mr_u3_n _ _ _ _ _ (fun z => hf z.2.2), mr_u3_n _ _ _ _ _ (fun z => by cases z.1), if_neg (fun z => by cases z.1), mr_u3_n _ _ _ _ _ (fun z => by cases z.1), if_neg (fun z => by cases z.1), if_neg (fun z => by cases z.1), e]
        by_cases hl : f < n
        · rw [if_pos hl, if_pos (by omega)]
        · rw [if_neg hl, if_neg (by omega)]
    · rw [mr_u3_n _ _ _ _ _ (fun z => k1 z.1)]
      by_cases k4 : k = 4
      · subst k4
        have e : ∀ x, ci_rv 1 1 1 4 x 0 q 4 i f = if f = 0 then some (5, i) else if f = 1 then some (6, i) else none := fun _ => rfl
        rw [e]
        by_cases hin : i = n
        · subst hin
          by_cases f1 : f = 1
          · subst f1; rw [mr_u3_s]; rfl
          · rw [mr_u3_n _ _ _ _ _ (fun z => f1 z.2.2), if_neg (fun z => by cases z.1)]
            by_cases f0 : f = 0
            · subst f0; rw [mr_u3_s]; rfl
            · rw [mr_u3_n _ _ _ _ _ (fun z => f0 z.2.2), if_neg (fun z => by cases z.1), if_pos ⟨rfl, rfl⟩, if_neg f0, if_neg f1]
        · rw [mr_u3_n _ _ _ _ _ (fun z => hin z.2.1), if_neg (fun z => by cases z.1), mr_u3_n _ _ _ _ _ (fun z => hin z.2.1), if_neg (fun z => by cases z.1), if_neg (fun z => hin z.2), e]
      · rw [mr_u3_n _ _ _ _ _ (fun z => k4 z.1)]
        by_cases k6 : k = 6
        · subst k6
          have e : ∀ x, ci_rv 1 1 1 4 x 0 q 6 i f = none := fun _ => rfl
          rw [e]
          split
          · rfl
          · rw [mr_u3_n _ _ _ _ _ (fun z => by cases z.1), if_neg (fun z => by cases z.1), if_neg (fun z => by cases z.1), e]
        · rw [if_neg (fun z => k6 z.1), mr_u3_n _ _ _ _ _ (fun z => k4 z.1)]
          by_cases k5 : k = 5
          · subst k5
            have e : ∀ x, ci_rv 1 1 1 4 x 0 q 5 i f = none := fun _ => rfl
            rw [e]
            split
            · rfl
            · rw [if_neg (fun z => by cases z.1), e]
          · rw [if_neg (fun z => k5 z.1), if_neg (fun z => k4 z.1)]
            unfold ci_rv
            simp only [k1, if_false]
theorem ci_un {q : mr_St} {n : Nat} (hn : n < 16) : mr_C tys ma_sh ad (mr_sR (mr_nw (ci 1 1 1 4 4 n q) 7) 2 0 n (some (7, n))) = mr_C tys ma_sh ad (ci 1 1 1 4 4 (n + 1) q) := by
  refine ci_x (fun k i f => ci_P0 (r := ci 1 1 1 4 4 n q) 7 (by decide) ci_I k i f) (fun k i f => ci_L0 (r := ci 1 1 1 4 4 n q) 7 (by decide) ci_J k i f) (fun k => ?_) (fun k i f h => ?_)
  · show (if k = 7 then n + 1 else ci_pn 1 1 1 4 4 n q k) = _
    by_cases h7 : k = 7
    · subst h7; rfl
    rw [if_neg h7]; unfold ci_pn; simp only [h7, if_false]
  · show mr_u3 (fun a b c => if a = 7 ∧ b = n then none else ci_rv 1 1 1 4 4 n q a b c) 2 0 n (some (7, n)) k i f = ci_rv 1 1 1 4 4 (n + 1) q k i f
    by_cases k2 : k = 2
    · subst k2
      have hi : i = 0 := by have h2 : i < 1 := h; omega
      subst hi
      have e : ∀ x, ci_rv 1 1 1 4 4 x q 2 0 f = if f < x then some (7, f) else none := fun _ => rfl
      rw [e]
      by_cases hf : f = n
      · subst hf
        rw [mr_u3_s, if_pos (by omega)]
      · rw [mr_u3_n _ _ _ _ _ (fun z => hf z.2.2), if_neg (fun z => by cases z.1), e]
        by_cases hl : f < n
        · rw [if_pos hl, if_pos (by omega)]
        · rw [if_neg hl, if_neg (by omega)]
    · rw [mr_u3_n _ _ _ _ _ (fun z => k2 z.1)]
      by_cases k7 : k = 7
      · subst k7
        have e : ∀ x, ci_rv 1 1 1 4 4 x q 7 i f = none := fun _ => rfl
        rw [e]
        split
        · rfl
        · rw [e]
      · rw [if_neg (fun z => k7 z.1)]
        unfold ci_rv
        simp only [k2, if_false]
theorem mg_eqC2 {p : Program} {e : Env} {R : Room} {s : State} {m : MethodId} {args : Array Value} {below : List Frame} {meth : Method} {c : Code} {Q : State → Prop} {cl : List vw_C} {A : Nat → Prop} {H0 : Heap} {nL : Nat} {C C' : mg_Ct} {L : List (Option Value)} {cells slots pc : Nat} {st : List Value} (hc : C = C') (k : mg_G p l e R s m args below meth c D cl Z A H0 nL Q ad C' L cells slots st pc) : mg_G p l e R s m args below meth c D cl Z A H0 nL Q ad C L cells slots st pc := hc ▸ k
theorem ct_A_init (hty : tys.map (·.2) = ma_ty) (q : mr_St) (hq : ∀ k i f x, 20 ≤ k → i < mr_pn q k → mr_rv q k i f = some x → x.2 < mr_pn q x.1 ∧ 20 ≤ x.1) : mr_MA l my_A_init mc_A_init 2 none 2 39 673 D mn_cl Z mb_B tys ma_sh [va_rf (some (ad 0 0))] ad (ci 0 0 0 0 0 0 q) none (ma_R ca_init q) := by
  refine mg_M.of (cc := mc_A_init) (maxL := 2) (ret := none) (by decide) rfl (Nat.le_of_ble_eq_true rfl) (mg_caS rfl mg_ca0) ?_
  intro p e s m args below meth c K hret hlk hnm hA
  have loop2 : ∀ (f n : Nat) (ad9 : mg_Ad), n + f = 16 → (∀ a b, b < mr_pn (ci 0 0 0 0 0 0 q) a → ad9 a b = ad a b) → mg_G p l e (mg_rm 2 39 673) s m args below meth c D mn_cl Z (mg_A ad (mr_C tys ma_sh ad (ci 0 0 0 0 0 0 q)) s.heap.size) s.heap 2 (MQ below (mg_Qc D mn_cl Z ad (mr_C tys ma_sh ad (ci 0 0 0 0 0 0 q)) s.heap.size (mg_PoA tys ma_sh ad (ci 0 0 0 0 0 0 q) none (ma_R ca_init q))) args s 39 673 (mg_A ad (mr_C tys ma_sh ad (ci 0 0 0 0 0 0 q)) s.heap.size)) ad9 (mr_C tys ma_sh ad9 (ci 1 1 1 4 4 n q)) [some (va_rf (some (ad9 0 0))), some (.int (Int32.ofNat n))] (23 + n) (625 + 3 * n) [] 110 := by
    intro f
    induction f with
    | zero =>
      intro n ad9 hn hc
      have hn2 : n = 16 := by omega
      subst hn2
      refine mg_iload_n K md_A_init_110 rfl ?_
      refine mg_bipush K (v := 16) md_A_init_111 (by decide) ?_
      refine mg_icmp_ge K 135 md_A_init_113 rfl (fun h113 => ?_) (fun h113 => ?_)
      · exact mg_vret K hret hlk md_A_init_135 (by decide) (by decide) ⟨rfl, hc, ci_end q⟩
      · exact absurd ((mi_le (a := 16) (b := 16) (by omega) (by omega)).mpr (by omega)) h113
    | succ f ih =>
      intro n ad9 hn hc
      have hwf : mr_wf (ci 1 1 1 4 4 n q) := ci_wf (by omega) (by omega) hq
      refine mg_iload_n K md_A_init_110 rfl ?_
      refine mg_bipush K (v := 16) md_A_init_111 (by decide) ?_
      refine mg_icmp_ge K 135 md_A_init_113 rfl (fun h113 => ?_) (fun h113 => ?_)
      · exact absurd ((mi_le (a := 16) (b := n) (by omega) (by omega)).mp h113) (by omega)
      · refine mg_aload_n K md_A_init_116 rfl ?_
        refine mr_getS K mf_A_17 md_A_init_117 Nat.zero_lt_one rfl ?_
        refine mg_iload_n K md_A_init_120 rfl ?_
        refine mr_new K 7 hA hwf mw_A_15 md_A_init_121 (by show _ ≤ 39; omega) (by show _ ≤ 673; omega) (fun ad8 had => ?_)
        rw [← had 0 0 Nat.zero_lt_one, ← had 2 0 Nat.zero_lt_one, show mr_pn (ci 1 1 1 4 4 n q) 7 = n from rfl]
        refine mg_dup K md_A_init_124 rfl ?_
        refine mr_cIN K hA (ct_U_init (mr_nw (ci 1 1 1 4 4 n q) 7) (i := n) (Nat.lt_succ_self n) (fun f => if_pos ⟨rfl, rfl⟩)) ms_A_49 (by decide) md_A_init_125 rfl (Nat.le_of_ble_eq_true rfl) ⟨by show _ ≤ 39; omega, by show _ ≤ 673; omega⟩ ?_
        refine mr_aast (k2 := 7) (i2 := n) K rfl (ma_t hty 1) rfl rfl md_A_init_128 Nat.zero_lt_one (Nat.lt_succ_self n) (mi_vn (by omega) (by omega)) ?_
        rw [mi_tn (by omega)]
        refine mg_eqC2 (ci_un (by omega)) ?_
        refine mg_iinc K (v := Int32.ofNat (n + 1)) md_A_init_129 rfl (mi_a1 n) (by decide) ?_
        refine mg_goto K 110 md_A_init_132 rfl ?_
        refine mg_widen (ce := 23 + (n + 1)) (sl := 625 + 3 * (n + 1)) (by omega) (by omega) ?_
        exact ih (n + 1) ad8 (by omega) (fun a b hb => (had a b (ci_mono hb)).trans (hc a b hb))
  have loop1 : ∀ (f n : Nat) (ad9 : mg_Ad), n + f = 4 → (∀ a b, b < mr_pn (ci 0 0 0 0 0 0 q) a → ad9 a b = ad a b) → mg_G p l e (mg_rm 2 39 673) s m args below meth c D mn_cl Z (mg_A ad (mr_C tys ma_sh ad (ci 0 0 0 0 0 0 q)) s.heap.size) s.heap 2 (MQ below (mg_Qc D mn_cl Z ad (mr_C tys ma_sh ad (ci 0 0 0 0 0 0 q)) s.heap.size (mg_PoA tys ma_sh ad (ci 0 0 0 0 0 0 q) none (ma_R ca_init q))) args s 39 673 (mg_A ad (mr_C tys ma_sh ad (ci 0 0 0 0 0 0 q)) s.heap.size)) ad9 (mr_C tys ma_sh ad9 (ci 1 1 1 4 n 0 q)) [some (va_rf (some (ad9 0 0))), some (.int (Int32.ofNat n))] (11 + 3 * n) (417 + 52 * n) [] 84 := by
    intro f
    induction f with
    | zero =>
      intro n ad9 hn hc
      have hn2 : n = 4 := by omega
      subst hn2
      refine mg_iload_n K md_A_init_84 rfl ?_
      refine mg_iconst K (v := 4) md_A_init_85 (by decide) ?_
      refine mg_icmp_ge K 108 md_A_init_86 rfl (fun h86 => ?_) (fun h86 => ?_)
      · refine mg_iconst K (v := 0) md_A_init_108 (by decide) ?_
        refine mg_istore_n K md_A_init_109 (by decide) ?_
        exact loop2 16 0 ad9 (by omega) hc
      · exact absurd ((mi_le (a := 4) (b := 4) (by omega) (by omega)).mpr (by omega)) h86
    | succ f ih =>
      intro n ad9 hn hc
      have hwf : mr_wf (ci 1 1 1 4 n 0 q) := ci_wf (by omega) (by omega) hq
      refine mg_iload_n K md_A_init_84 rfl ?_
      refine mg_iconst K (v := 4) md_A_init_85 (by decide) ?_
      refine mg_icmp_ge K 108 md_A_init_86 rfl (fun h86 => ?_) (fun h86 => ?_)
      · exact absurd ((mi_le (a := 4) (b := n) (by omega) (by omega)).mp h86) (by omega)
      · refine mg_aload_n K md_A_init_89 rfl ?_
        refine mr_getS K mf_A_11 md_A_init_90 Nat.zero_lt_one rfl ?_
        refine mg_iload_n K md_A_init_93 rfl ?_
        refine mr_new K 4 hA hwf mw_A_9 md_A_init_94 (by show _ ≤ 39; omega) (by show _ ≤ 673; omega) (fun ad8 had => ?_)
        rw [← had 0 0 Nat.zero_lt_one, ← had 1 0 Nat.zero_lt_one, show mr_pn (ci 1 1 1 4 n 0 q) 4 = n from rfl]
        refine mg_dup K md_A_init_97 rfl ?_
        refine mr_cINA K hA (ct_S_init hty (mr_nw (ci 1 1 1 4 n 0 q) 4) (i := n) (Nat.lt_succ_self n) (hwf.nw 4)) ms_A_48 (by decide) md_A_init_98 rfl (Nat.le_of_ble_eq_true rfl) ⟨by show _ ≤ 39; omega, by show _ ≤ 673; omega⟩ (fun ad7 had7 => ?_)
        rw [← had7 0 0 Nat.zero_lt_one, ← had7 1 0 Nat.zero_lt_one, ← had7 4 n (Nat.lt_succ_self n)]
        refine mr_aast (k2 := 4) (i2 := n) K rfl (ma_t hty 0) rfl rfl md_A_init_101 Nat.zero_lt_one (Nat.lt_succ_self n) (mi_vn (by omega) (by omega)) ?_
        rw [mi_tn (by omega)]
        refine mg_eqC2 (ci_sn (by omega)) ?_
        refine mg_iinc K (v := Int32.ofNat (n + 1)) md_A_init_102 rfl (mi_a1 n) (by decide) ?_
        refine mg_goto K 84 md_A_init_105 rfl ?_
        refine mg_widen (ce := 11 + 3 * (n + 1)) (sl := 417 + 52 * (n + 1)) (by omega) (by omega) ?_
        exact ih (n + 1) ad7 (by omega) (fun a b hb => (had7 a b (Nat.lt_of_lt_of_le (ci_mono hb) (mr_nw_le _ 4 a))).trans ((had a b (ci_mono hb)).trans (hc a b hb)))
  refine mg_aload_n K md_A_init_0 rfl ?_
  refine mg_objInit K md_A_init_1 ms_A_3 mb_oi.1 mb_oi.2 (by decide) (by decide) ?_
  refine mg_aload_n K md_A_init_4 rfl ?_
  refine mg_iconst K (v := 4) md_A_init_5 (by decide) ?_
  refine mr_newR (N' := 4) K 1 hA (ci_wf (by decide) (by decide) hq) rfl (ma_t hty 0) md_A_init_6 mq_A_9.1 mq_A_9.2 (by decide) (by decide) (by decide) (by decide) (by decide) (fun a1 ha1 => ?_)
  rw [← ha1 0 0 Nat.zero_lt_one]
  refine mr_putFS (k2 := 1) (i2 := 0) K hnm mf_A_11 md_A_init_9 Nat.zero_lt_one (mr_nfa _) ?_
  refine mg_eqC2 ci_a1 ?_
  refine mg_aload_n K md_A_init_12 rfl ?_
  refine mg_bipush K (v := 16) md_A_init_13 (by decide) ?_
  refine mr_newR (N' := 16) K 2 hA (ci_wf (by decide) (by decide) hq) rfl (ma_t hty 1) md_A_init_15 mq_A_15.1 mq_A_15.2 (by decide) (by decide) (by decide) (by decide) (by decide) (fun a2 ha2 => ?_)
  rw [← ha2 0 0 Nat.zero_lt_one]
  refine mr_putFS (k2 := 2) (i2 := 0) K hnm mf_A_17 md_A_init_18 Nat.zero_lt_one (mr_nfa _) ?_
  refine mg_eqC2 ci_a2 ?_
  refine mg_aload_n K md_A_init_21 rfl ?_
  refine mg_iconst K (v := 5) md_A_init_22 (by decide) ?_
  refine mr_newI (N' := 5) K 3 hA (ci_wf (by decide) (by decide) hq) rfl (ma_t hty 2) md_A_init_23 mb_ar_boolean rfl rfl (by decide) (by decide) (by decide) (by decide) (by decide) (fun a3 ha3 => ?_)
  rw [← ha3 0 0 Nat.zero_lt_one]
  refine mr_putFS (k2 := 3) (i2 := 0) K hnm mf_A_21 md_A_init_25 Nat.zero_lt_one (mr_nfa _) ?_
  refine mg_eqC2 ci_a3 ?_
  refine mg_aload_n K md_A_init_28 rfl ?_
  refine mr_new K 8 hA (ci_wf (by decide) (by decide) hq) mw_A_25 md_A_init_29 (by decide) (by decide) (fun b0 hb0 => ?_)
  rw [← hb0 0 0 Nat.zero_lt_one, show mr_pn (ci 1 1 1 0 0 0 q) 8 = 0 from rfl]
  refine mg_dup K md_A_init_32 rfl ?_
  refine mr_cINA K hA (ct_L_init hty (mr_nw (ci 1 1 1 0 0 0 q) 8) (i := 0) (Nat.lt_succ_self 0) rfl ((ci_wf (by decide) (by decide) hq).nw 8)) ms_A_27 (by decide) md_A_init_33 rfl (Nat.le_of_ble_eq_true rfl) ⟨by decide, by decide⟩ (fun c0 hc0 => ?_)
  rw [← hc0 0 0 Nat.zero_lt_one, ← hc0 8 0 (Nat.lt_succ_self 0)]
  refine mr_putFS (k2 := 8) (i2 := 0) K hnm mf_A_28 md_A_init_36 Nat.zero_lt_one (mr_nfo _) ?_
  refine mg_eqC2 (ci_ln (n := 0) (by decide)) ?_
  refine mg_aload_n K md_A_init_39 rfl ?_
  refine mr_new K 8 hA (ci_wf (by decide) (by decide) hq) mw_A_25 md_A_init_40 (by decide) (by decide) (fun b1 hb1 => ?_)
  rw [← hb1 0 0 Nat.zero_lt_one, show mr_pn (ci 1 1 1 1 0 0 q) 8 = 1 from rfl]
  refine mg_dup K md_A_init_43 rfl ?_
  refine mr_cINA K hA (ct_L_init hty (mr_nw (ci 1 1 1 1 0 0 q) 8) (i := 1) (Nat.lt_succ_self 1) rfl ((ci_wf (by decide) (by decide) hq).nw 8)) ms_A_27 (by decide) md_A_init_44 rfl (Nat.le_of_ble_eq_true rfl) ⟨by decide, by decide⟩ (fun c1 hc1 => ?_)
  rw [← hc1 0 0 Nat.zero_lt_one, ← hc1 8 1 (Nat.lt_succ_self 1)]
  refine mr_putFS (k2 := 8) (i2 := 1) K hnm mf_A_32 md_A_init_47 Nat.zero_lt_one (mr_nfo _) ?_
  refine mg_eqC2 (ci_ln (n := 1) (by decide)) ?_
  refine mg_aload_n K md_A_init_50 rfl ?_
  refine mr_new K 8 hA (ci_wf (by decide) (by decide) hq) mw_A_25 md_A_init_51 (by decide) (by decide) (fun b2 hb2 => ?_)
  rw [← hb2 0 0 Nat.zero_lt_one, show mr_pn (ci 1 1 1 2 0 0 q) 8 = 2 from rfl]
  refine mg_dup K md_A_init_54 rfl ?_
  refine mr_cINA K hA (ct_L_init hty (mr_nw (ci 1 1 1 2 0 0 q) 8) (i := 2) (Nat.lt_succ_self 2) rfl ((ci_wf (by decide) (by decide) hq).nw 8)) ms_A_27 (by decide) md_A_init_55 rfl (Nat.le_of_ble_eq_true rfl) ⟨by decide, by decide⟩ (fun c2 hc2 => ?_)
  rw [← hc2 0 0 Nat.zero_lt_one, ← hc2 8 2 (Nat.lt_succ_self 2)]
  refine mr_putFS (k2 := 8) (i2 := 2) K hnm mf_A_35 md_A_init_58 Nat.zero_lt_one (mr_nfo _) ?_
  refine mg_eqC2 (ci_ln (n := 2) (by decide)) ?_
  refine mg_aload_n K md_A_init_61 rfl ?_
  refine mr_new K 8 hA (ci_wf (by decide) (by decide) hq) mw_A_25 md_A_init_62 (by decide) (by decide) (fun b3 hb3 => ?_)
  rw [← hb3 0 0 Nat.zero_lt_one, show mr_pn (ci 1 1 1 3 0 0 q) 8 = 3 from rfl]
  refine mg_dup K md_A_init_65 rfl ?_
  refine mr_cINA K hA (ct_L_init hty (mr_nw (ci 1 1 1 3 0 0 q) 8) (i := 3) (Nat.lt_succ_self 3) rfl ((ci_wf (by decide) (by decide) hq).nw 8)) ms_A_27 (by decide) md_A_init_66 rfl (Nat.le_of_ble_eq_true rfl) ⟨by decide, by decide⟩ (fun c3 hc3 => ?_)
  rw [← hc3 0 0 Nat.zero_lt_one, ← hc3 8 3 (Nat.lt_succ_self 3)]
  refine mr_putFS (k2 := 8) (i2 := 3) K hnm mf_A_38 md_A_init_69 Nat.zero_lt_one (mr_nfo _) ?_
  refine mg_eqC2 (ci_ln (n := 3) (by decide)) ?_
  refine mg_aload_n K md_A_init_72 rfl ?_
  refine mg_iconst K (v := 0) md_A_init_73 (by decide) ?_
  refine mr_putI K mf_A_41 md_A_init_74 Nat.zero_lt_one ?_
  refine mr_eqr (mr_sI_id rfl) ?_
  refine mg_aload_n K md_A_init_77 rfl ?_
  refine mg_iconst K (v := 0) md_A_init_78 (by decide) ?_
  refine mr_putI K mf_A_45 md_A_init_79 Nat.zero_lt_one ?_
  refine mr_eqr (mr_sI_id rfl) ?_
  refine mg_iconst K (v := 0) md_A_init_82 (by decide) ?_
  refine mg_istore_n K md_A_init_83 (by decide) ?_
  exact loop1 4 0 c3 (by omega) (fun a b hb => (hc3 a b (Nat.lt_of_lt_of_le (ci_mono hb) (mr_nw_le _ 8 a))).trans ((hb3 a b (ci_mono hb)).trans ((hc2 a b (Nat.lt_of_lt_of_le (ci_mono hb) (mr_nw_le _ 8 a))).trans ((hb2 a b (ci_mono hb)).trans ((hc1 a b (Nat.lt_of_lt_of_le (ci_mono hb) (mr_nw_le _ 8 a))).trans ((hb1 a b (ci_mono hb)).trans ((hc0 a b (Nat.lt_of_lt_of_le (ci_mono hb) (mr_nw_le _ 8 a))).trans ((hb0 a b (ci_mono hb)).trans ((ha3 a b (ci_mono hb)).trans ((ha2 a b (ci_mono hb)).trans (ha1 a b hb)))))))))))
end CC1
