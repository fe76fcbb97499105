/-! the law's start: the two objects, and the cell of the answer -/
def lw_q0 : mr_St := (fun _ _ _ => 0, fun _ _ _ => 0, fun _ _ _ => none, fun _ => 0)
theorem lw_q0_hq : ∀ k i f x, 20 ≤ k → i < mr_pn lw_q0 k → mr_rv lw_q0 k i f = some x → x.2 < mr_pn lw_q0 x.1 ∧ 20 ≤ x.1 := fun _ _ _ _ _ h => absurd h (Nat.not_lt_zero _)
theorem lw_q0_wf : mr_wf lw_q0 := fun _ _ _ _ h => absurd h (Nat.not_lt_zero _)
theorem lw_q0_C {tys : List (ClassId × FieldType)} {ad : mg_Ad} : mg_0 = mr_C tys ma_sh ad lw_q0 := by
  funext k i
  exact (mr_no (Nat.not_lt_zero i)).symm
theorem lw_e0 {tys : List (ClassId × FieldType)} {ad : mg_Ad} : mr_C tys ma_sh ad (mr_nw lw_q0 0) = mr_C tys ma_sh ad (ci 0 0 0 0 0 0 lw_q0) := by
  have hp : ∀ k, mr_pn (ci 0 0 0 0 0 0 lw_q0) k = if k = 0 then 1 else 0 := fun k => by
    show ci_pn 0 0 0 0 0 0 lw_q0 k = _
    unfold ci_pn
    by_cases h0 : k = 0
    · rw [if_pos h0, if_pos h0]
    · rw [if_neg h0, if_neg h0]
      repeat' (split; · rfl)
      rfl
  refine mr_Ceq (fun k => ?_) (fun k i c hi => ?_) (fun k i c hi => ?_) (fun k i c hi => ?_)
  · rw [hp]
    rfl
  · show (if k = 0 ∧ i = 0 then (0 : Int32) else 0) = if k < 20 then 0 else 0
    split <;> split <;> rfl
  · show (if k = 0 ∧ i = 0 then (0 : Int64) else 0) = if k < 20 then 0 else 0
    split <;> split <;> rfl
  · rw [hp] at hi
    have hk : k = 0 := by
      by_cases h0 : k = 0
      · exact h0
      · rw [if_neg h0] at hi; omega
    subst hk
    have e0 : mr_rv (mr_nw lw_q0 0) 0 i c = none := by
      show (if (0 : Nat) = 0 ∧ i = 0 then none else none) = none
      split <;> rfl
    rw [e0]
    show none = ci_rv 0 0 0 0 0 0 lw_q0 0 i c
    unfold ci_rv
    rw [if_pos rfl]
    by_cases c0 : c = 0
    · rw [if_pos c0, if_neg (by decide : ¬ (0 : Nat) = 1)]
    rw [if_neg c0]
    by_cases c1 : c = 1
    · rw [if_pos c1, if_neg (by decide : ¬ (0 : Nat) = 1)]
    rw [if_neg c1]
    by_cases c2 : c = 2
    · rw [if_pos c2, if_neg (by decide : ¬ (0 : Nat) = 1)]
    rw [if_neg c2, if_neg (show ¬ c < 3 + 0 by omega)]
theorem lw_e1 {tys : List (ClassId × FieldType)} {ad : mg_Ad} : mr_C tys ma_sh ad (mr_nw (ma_R ca_init lw_q0) 20) = mr_C tys ma_sh ad (ma_R ca_init (rj 0)) := by
  have p20 : ∀ k, 20 ≤ k → mr_pn (ma_R ca_init lw_q0) k = 0 := fun k hk => by
    show ma_pn ca_init lw_q0 k = _
    unfold ma_pn
    rw [if_neg (by omega), if_neg (by omega), if_neg (by omega), if_neg (by omega), if_neg (by omega)]
    rfl
  refine mr_Ceq (fun k => ?_) (fun k i c hi => ?_) (fun k i c hi => ?_) (fun k i c hi => ?_)
  · show (if k = 20 then mr_pn (ma_R ca_init lw_q0) 20 + 1 else mr_pn (ma_R ca_init lw_q0) k) = _
    rw [p20 20 (by omega)]
    by_cases hk : k < 20
    · rw [if_neg (by omega)]
      exact ma_pn20 ca_init _ _ k hk
    · rw [rj_pn ca_init _ _ (by omega), p20 k (by omega)]
      by_cases hj : k = 20
      · rw [if_pos hj, if_pos (by omega)]
      · rw [if_neg hj, if_neg (by omega)]
  · show (if k = 20 ∧ i = mr_pn (ma_R ca_init lw_q0) 20 then 0 else ma_iv ca_init lw_q0 k i c) = ma_iv ca_init (rj 0) k i c
    by_cases hk : k < 20
    · rw [if_neg (by omega)]
      exact ma_ivl ca_init _ _ k i c hk
    · rw [ma_iv20 ca_init _ _ _ _ (by omega), ma_iv20 ca_init _ _ _ _ (by omega)]
      show (if _ then (0 : Int32) else 0) = 0
      split <;> rfl
  · show (if k = 20 ∧ i = mr_pn (ma_R ca_init lw_q0) 20 then 0 else ma_lv lw_q0 k i c) = ma_lv (rj 0) k i c
    have z : ma_lv lw_q0 k i c = 0 := by unfold ma_lv; split <;> rfl
    have z2 : ma_lv (rj 0) k i c = 0 := by unfold ma_lv; split <;> rfl
    rw [z, z2]
    split <;> rfl
  · show (if k = 20 ∧ i = mr_pn (ma_R ca_init lw_q0) 20 then none else ma_rv ca_init lw_q0 k i c) = ma_rv ca_init (rj 0) k i c
    by_cases hk : k < 20
    · rw [if_neg (by omega)]
      exact ma_rvl ca_init _ _ k i c hk
    · have e0 : (if k = 20 ∧ i = mr_pn (ma_R ca_init lw_q0) 20 then none else ma_rv ca_init lw_q0 k i c) = none := by
        rw [ma_rv20 ca_init _ _ _ _ (by omega)]
        show (if _ then none else none) = none
        split <;> rfl
      rw [e0, ma_rv20 ca_init _ _ _ _ (by omega)]
      show none = if k = 20 then (match rb_fd c with | some x => if x.1 < 21 + 0 then some x else none | none => none) else none
      by_cases h20 : k = 20
      · rw [if_pos h20]
        cases e : rb_fd c with
        | none => rfl
        | some x =>
          show none = if x.1 < 21 + 0 then some x else none
          rw [if_neg (by have := (rb_fd_c e).2.1; omega)]
      · rw [if_neg h20]
section LW9
variable {p : Program} {l : Launch} {e : Env} {R : Room} {s : State} {m : MethodId} {args : Array Value} {below : List Frame} {meth : Method} {c : Code} {Q : State → Prop}
variable {D : va_G} {Z : Nat × Cell} {tys : List (ClassId × FieldType)} {A : Nat → Prop} {H0 : Heap} {ad : mg_Ad}
theorem lw_start (K : mg_K p m c mc_W_law 7 s args mb_B mn_RW D mn_cl Z tys) (hty : tys.map (·.2) = ma_ty) (hA : ∀ q, H0.size ≤ q → A q) (hR : 11 ≤ R.frames ∧ 390 ≤ R.locals) (hRc : 601024 ≤ R.cells) (hRs : 7293034 ≤ R.slots) {b n : Nat} {xs : Nat → Int32} (hX : va_X b n xs s H0) (hbl : b < H0.size) (hbA : ¬ A b) (hn : n ≤ 3072) (hfl : l.flags = pinnedFlags ++ [noTraceFlag]) (hE : ∀ (ad : mg_Ad) (g : ca_S) (h : rb_S) (o : Int64) (i cells slots : Nat), cells ≤ R.cells → slots ≤ R.slots → mg_G p l e R s m args below meth c D mn_cl Z A H0 7 Q ad (mr_C tys ma_sh ad (ma_R g (rb_R h o))) [some (va_rf (some b)), some (va_rf (some (ad 0 0))), some (va_rf (some (ad 20 0))), some (va_rf (some (ad 40 0))), some (.int (Int32.ofNat i))] cells slots [] 852) : mg_G p l e R s m args below meth c D mn_cl Z A H0 7 Q ad mg_0 [some (va_rf (some b))] 0 0 [] 0 := by
  refine mg_eqC2 (lw_q0_C (tys := tys) (ad := ad)) ?_
  refine mr_new K 0 hA lw_q0_wf mw_W_8 md_W_law_0 (by omega) (by omega) (fun a0 ha0 => ?_)
  rw [show mr_pn lw_q0 0 = 0 from rfl]
  refine mg_dup K md_W_law_3 rfl ?_
  refine mg_eqC2 lw_e0 ?_
  refine mr_cIA K hA (ct_A_init hty lw_q0 lw_q0_hq) ms_W_40 ⟨by omega, by omega⟩ md_W_law_4 rfl (Nat.le_of_ble_eq_true rfl) ⟨by omega, by omega⟩ (fun a1 ha1 => ?_)
  rw [← ha1 0 0 Nat.zero_lt_one]
  refine mg_astore_n K md_W_law_7 (by decide) ?_
  refine mr_new K 20 hA (ma_wf ca_init_ok lw_q0_hq) mw_W_41 md_W_law_8 (by omega) (by omega) (fun a2 ha2 => ?_)
  rw [← ha2 0 0 Nat.zero_lt_one, show mr_pn (ma_R ca_init lw_q0) 20 = 0 from rfl]
  refine mg_dup K md_W_law_11 rfl ?_
  refine mg_eqC2 lw_e1 ?_
  refine mr_cIA K hA (ct_B_init hty ca_init ca_init_ok) ms_W_43 ⟨by omega, by omega⟩ md_W_law_12 rfl (Nat.le_of_ble_eq_true rfl) ⟨by omega, by omega⟩ (fun a3 ha3 => ?_)
  rw [← ha3 0 0 Nat.zero_lt_one, ← ha3 20 0 Nat.zero_lt_one]
  refine mg_astore_n K md_W_law_15 (by decide) ?_
  refine mg_iconst K (v := 1) md_W_law_16 (by decide) ?_
  refine mr_newL (N' := 1) K 40 hA (ma_wf ca_init_ok (rj_hq 17)) rfl (ma_t hty 5) md_W_law_17 mb_ar_long rfl (by decide) (by decide) (by decide) (by omega) (by omega) (fun a4 ha4 => ?_)
  rw [← ha4 0 0 Nat.zero_lt_one, ← ha4 20 0 Nat.zero_lt_one, show mr_pn (ma_R ca_init (rj 17)) 40 = 0 from rfl]
  refine mg_eqC2 (rj_end ca_init) ?_
  refine mg_astore_n K md_W_law_19 (by decide) ?_
  refine mg_iconst K (v := 0) md_W_law_20 (by decide) ?_
  refine mg_istore K md_W_law_21 (by decide) ?_
  exact lw_loop K hty hA hR hX hbl hbA hn hfl hE 513 0 a4 ca_init (fun _ _ => 0) 0 _ _ (by omega) (by omega) (by omega) (by omega) sm_T_init
end LW9
