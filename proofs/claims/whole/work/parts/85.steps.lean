/-! the law's steps -/
theorem ma_hq (h : rb_S) (o : Int64) : ∀ k i f x, 20 ≤ k → i < mr_pn (rb_R h o) k → mr_rv (rb_R h o) k i f = some x → x.2 < mr_pn (rb_R h o) x.1 ∧ 20 ≤ x.1 := by
  intro k i f x _ _ hx
  change (if k = 20 then rb_fd f else none) = some x at hx
  split at hx
  · obtain ⟨h1, h2, h3⟩ := rb_fd_c hx
    refine ⟨?_, by omega⟩
    show x.2 < (if x.1 < 38 then 1 else if x.1 = 40 then 1 else 0)
    rw [if_pos h3, h1]
    exact Nat.zero_lt_one
  · cases hx
/-- how the law goes on behind a step -/
def lw_N (p : Program) (l : Launch) (e : Env) (R : Room) (s : State) (m : MethodId) (args : Array Value) (below : List Frame) (meth : Method) (c : Code) (Q : State → Prop) (D : va_G) (Z : Nat × Cell) (tys : List (ClassId × FieldType)) (A : Nat → Prop) (H0 : Heap) (b i cells slots : Nat) : Prop :=
  ∀ (ad : mg_Ad) (g : ca_S) (h : rb_S) (o : Int64), sm_T g h → mg_G p l e R s m args below meth c D mn_cl Z A H0 7 Q ad (mr_C tys ma_sh ad (ma_R g (rb_R h o))) [some (va_rf (some b)), some (va_rf (some (ad 0 0))), some (va_rf (some (ad 20 0))), some (va_rf (some (ad 40 0))), some (.int (Int32.ofNat i))] (cells + 1) (slots + 8) [] 846
section LW3
variable {p : Program} {l : Launch} {e : Env} {R : Room} {s : State} {m : MethodId} {args : Array Value} {below : List Frame} {meth : Method} {c : Code} {Q : State → Prop}
variable {D : va_G} {Z : Nat × Cell} {tys : List (ClassId × FieldType)} {A : Nat → Prop} {H0 : Heap} {ad : mg_Ad} {cells slots : Nat}
theorem lw_count (K : mg_K p m c mc_W_law 7 s args mb_B mn_RW D mn_cl Z tys) (hty : tys.map (·.2) = ma_ty) (hA : ∀ q, H0.size ≤ q → A q) (hR : 11 ≤ R.frames ∧ 390 ≤ R.locals) {b n : Nat} {xs : Nat → Int32} (hX : va_X b n xs s H0) (hbl : b < H0.size) (hbA : ¬ A b) (hn : n ≤ 3072) {i : Nat} (hi : i + 6 ≤ n) (hc : cells + 1 ≤ R.cells) (hs : slots + 8 ≤ R.slots) {g : ca_S} {h : rb_S} {o : Int64} (T : sm_T g h) (kk : lw_N p l e R s m args below meth c Q D Z tys A H0 b i cells slots) : mg_G p l e R s m args below meth c D mn_cl Z A H0 7 Q ad (mr_C tys ma_sh ad (ma_R g (rb_R h o))) [some (va_rf (some b)), some (va_rf (some (ad 0 0))), some (va_rf (some (ad 20 0))), some (va_rf (some (ad 40 0))), some (.int (Int32.ofNat i))] cells slots [] 821 := by
  refine mg_aload_n K md_W_law_821 rfl ?_
  refine mg_aload_n K md_W_law_822 rfl ?_
  refine mg_iload K md_W_law_823 rfl ?_
  refine mg_iconst K (v := 1) md_W_law_825 (by decide) ?_
  refine mg_iadd K md_W_law_826 ?_
  rw [show Int32.ofNat i + 1 = Int32.ofNat (i + 1) from mi_pl i 1]
  refine mg_sld (i := i + 1) K hX hbl hbA (by omega) hn md_W_law_827 ?_
  refine mr_cV K hA (ct_A_count hty g (rb_R h o) (xs (i + 1))) ms_W_99 ⟨by omega, by omega⟩ md_W_law_828 rfl rfl Nat.zero_lt_one rfl (Nat.le_of_ble_eq_true rfl) ⟨by omega, by omega⟩ ?_
  refine mg_aload_n K md_W_law_831 rfl ?_
  refine mg_aload_n K md_W_law_832 rfl ?_
  refine mg_iload K md_W_law_833 rfl ?_
  refine mg_iconst K (v := 1) md_W_law_835 (by decide) ?_
  refine mg_iadd K md_W_law_836 ?_
  rw [show Int32.ofNat i + 1 = Int32.ofNat (i + 1) from mi_pl i 1]
  refine mg_sld (i := i + 1) K hX hbl hbA (by omega) hn md_W_law_837 ?_
  refine mr_cV K hA (ct_B_count hty g h o (xs (i + 1))) ms_W_102 ⟨by omega, by omega⟩ md_W_law_838 rfl rfl Nat.zero_lt_one rfl (Nat.le_of_ble_eq_true rfl) ⟨by omega, by omega⟩ ?_
  refine mg_icmp_eq K 846 md_W_law_841 rfl (fun _ => ?_) (fun hne => absurd (sm_count T _) hne)
  refine mg_widen (ce := cells + 1) (sl := slots + 8) (by omega) (by omega) ?_
  exact kk ad _ _ _ (sm_T0 T 0)
theorem lw_act (K : mg_K p m c mc_W_law 7 s args mb_B mn_RW D mn_cl Z tys) (hty : tys.map (·.2) = ma_ty) (hA : ∀ q, H0.size ≤ q → A q) (hR : 11 ≤ R.frames ∧ 390 ≤ R.locals) {b n : Nat} {xs : Nat → Int32} (hX : va_X b n xs s H0) (hbl : b < H0.size) (hbA : ¬ A b) (hn : n ≤ 3072) {i : Nat} (hi : i + 6 ≤ n) (hc : cells + 1 ≤ R.cells) (hs : slots + 8 ≤ R.slots) {g : ca_S} {h : rb_S} {o : Int64} (T : sm_T g h) (kk : lw_N p l e R s m args below meth c Q D Z tys A H0 b i cells slots) : mg_G p l e R s m args below meth c D mn_cl Z A H0 7 Q ad (mr_C tys ma_sh ad (ma_R g (rb_R h o))) [some (va_rf (some b)), some (va_rf (some (ad 0 0))), some (va_rf (some (ad 20 0))), some (va_rf (some (ad 40 0))), some (.int (Int32.ofNat i))] cells slots [] 734 := by
  have hok : ca_ok g := by obtain ⟨_, _, _, _, S, -, -⟩ := T; exact S.1.2.2.2.2.2.1
  have ho : rb_ok h := by obtain ⟨_, _, _, _, S, -, -⟩ := T; exact S.1.2.2.2.2.2.2.1
  refine mg_aload_n K md_W_law_734 rfl ?_
  refine mg_aload_n K md_W_law_735 rfl ?_
  refine mg_iload K md_W_law_736 rfl ?_
  refine mg_iconst K (v := 1) md_W_law_738 (by decide) ?_
  refine mg_iadd K md_W_law_739 ?_
  rw [show Int32.ofNat i + 1 = Int32.ofNat (i + 1) from mi_pl i 1]
  refine mg_sld (i := i + 1) K hX hbl hbA (by omega) hn md_W_law_740 ?_
  refine mr_cV K hA (ct_A_act hty g (rb_R h o) (xs (i + 1)) hok) ms_W_87 ⟨by omega, by omega⟩ md_W_law_741 rfl rfl Nat.zero_lt_one rfl (Nat.le_of_ble_eq_true rfl) ⟨by omega, by omega⟩ ?_
  refine mg_aload_n K md_W_law_744 rfl ?_
  refine mg_aload_n K md_W_law_745 rfl ?_
  refine mg_iload K md_W_law_746 rfl ?_
  refine mg_iconst K (v := 1) md_W_law_748 (by decide) ?_
  refine mg_iadd K md_W_law_749 ?_
  rw [show Int32.ofNat i + 1 = Int32.ofNat (i + 1) from mi_pl i 1]
  refine mg_sld (i := i + 1) K hX hbl hbA (by omega) hn md_W_law_750 ?_
  refine mr_cV K hA (ct_B_act hty g h o (xs (i + 1)) ho.2.1 (cp_le _) ho.2.2.2.1) ms_W_90 ⟨by omega, by omega⟩ md_W_law_751 rfl rfl Nat.zero_lt_one rfl (Nat.le_of_ble_eq_true rfl) ⟨by omega, by omega⟩ ?_
  refine mg_icmp_eq K 846 md_W_law_754 rfl (fun _ => ?_) (fun hne => absurd ((by obtain ⟨_, _, _, _, S, -, -⟩ := T; exact sm_at S.1 S.2.1.1 S.2.2.1 _)) hne)
  refine mg_widen (ce := cells + 1) (sl := slots + 8) (by omega) (by omega) ?_
  exact kk ad _ _ _ (sm_T0 T 0)
theorem lw_dead (K : mg_K p m c mc_W_law 7 s args mb_B mn_RW D mn_cl Z tys) (hty : tys.map (·.2) = ma_ty) (hA : ∀ q, H0.size ≤ q → A q) (hR : 11 ≤ R.frames ∧ 390 ≤ R.locals) {b n : Nat} {xs : Nat → Int32} (hX : va_X b n xs s H0) (hbl : b < H0.size) (hbA : ¬ A b) (hn : n ≤ 3072) {i : Nat} (hi : i + 6 ≤ n) (hc : cells + 1 ≤ R.cells) (hs : slots + 8 ≤ R.slots) {g : ca_S} {h : rb_S} {o : Int64} (T : sm_T g h) (kk : lw_N p l e R s m args below meth c Q D Z tys A H0 b i cells slots) : mg_G p l e R s m args below meth c D mn_cl Z A H0 7 Q ad (mr_C tys ma_sh ad (ma_R g (rb_R h o))) [some (va_rf (some b)), some (va_rf (some (ad 0 0))), some (va_rf (some (ad 20 0))), some (va_rf (some (ad 40 0))), some (.int (Int32.ofNat i))] cells slots [] 759 := by
  have hok : ca_ok g := by obtain ⟨_, _, _, _, S, -, -⟩ := T; exact S.1.2.2.2.2.2.1
  have ho : rb_ok h := by obtain ⟨_, _, _, _, S, -, -⟩ := T; exact S.1.2.2.2.2.2.2.1
  refine mg_aload_n K md_W_law_759 rfl ?_
  refine mg_aload_n K md_W_law_760 rfl ?_
  refine mg_iload K md_W_law_761 rfl ?_
  refine mg_iconst K (v := 1) md_W_law_763 (by decide) ?_
  refine mg_iadd K md_W_law_764 ?_
  rw [show Int32.ofNat i + 1 = Int32.ofNat (i + 1) from mi_pl i 1]
  refine mg_sld (i := i + 1) K hX hbl hbA (by omega) hn md_W_law_765 ?_
  refine mr_cV K hA (ct_A_dead hty g (rb_R h o) (xs (i + 1)) hok) ms_W_91 ⟨by omega, by omega⟩ md_W_law_766 rfl rfl Nat.zero_lt_one rfl (Nat.le_of_ble_eq_true rfl) ⟨by omega, by omega⟩ ?_
  refine mg_aload_n K md_W_law_769 rfl ?_
  refine mg_aload_n K md_W_law_770 rfl ?_
  refine mg_iload K md_W_law_771 rfl ?_
  refine mg_iconst K (v := 1) md_W_law_773 (by decide) ?_
  refine mg_iadd K md_W_law_774 ?_
  rw [show Int32.ofNat i + 1 = Int32.ofNat (i + 1) from mi_pl i 1]
  refine mg_sld (i := i + 1) K hX hbl hbA (by omega) hn md_W_law_775 ?_
  refine mr_cV K hA (ct_B_dead hty g h o (xs (i + 1)) ho.2.2.1 (cp_le _) ho.2.2.2.2) ms_W_94 ⟨by omega, by omega⟩ md_W_law_776 rfl rfl Nat.zero_lt_one rfl (Nat.le_of_ble_eq_true rfl) ⟨by omega, by omega⟩ ?_
  refine mg_icmp_eq K 846 md_W_law_779 rfl (fun _ => ?_) (fun hne => absurd ((by obtain ⟨_, _, _, _, S, -, -⟩ := T; exact sm_at S.1 S.2.1.2.1 S.2.2.2.1 _)) hne)
  refine mg_widen (ce := cells + 1) (sl := slots + 8) (by omega) (by omega) ?_
  exact kk ad _ _ _ (sm_T0 T 0)
theorem lw_point (K : mg_K p m c mc_W_law 7 s args mb_B mn_RW D mn_cl Z tys) (hty : tys.map (·.2) = ma_ty) (hA : ∀ q, H0.size ≤ q → A q) (hR : 11 ≤ R.frames ∧ 390 ≤ R.locals) {b n : Nat} {xs : Nat → Int32} (hX : va_X b n xs s H0) (hbl : b < H0.size) (hbA : ¬ A b) (hn : n ≤ 3072) {i : Nat} (hi : i + 6 ≤ n) (hc : cells + 1 ≤ R.cells) (hs : slots + 8 ≤ R.slots) {g : ca_S} {h : rb_S} {o : Int64} (T : sm_T g h) (kk : lw_N p l e R s m args below meth c Q D Z tys A H0 b i cells slots) : mg_G p l e R s m args below meth c D mn_cl Z A H0 7 Q ad (mr_C tys ma_sh ad (ma_R g (rb_R h o))) [some (va_rf (some b)), some (va_rf (some (ad 0 0))), some (va_rf (some (ad 20 0))), some (va_rf (some (ad 40 0))), some (.int (Int32.ofNat i))] cells slots [] 352 := by
  refine mg_aload_n K md_W_law_352 rfl ?_
  refine mg_aload_n K md_W_law_353 rfl ?_
  refine mg_iload K md_W_law_354 rfl ?_
  refine mg_iconst K (v := 1) md_W_law_356 (by decide) ?_
  refine mg_iadd K md_W_law_357 ?_
  rw [show Int32.ofNat i + 1 = Int32.ofNat (i + 1) from mi_pl i 1]
  refine mg_sld (i := i + 1) K hX hbl hbA (by omega) hn md_W_law_358 ?_
  refine mr_cV K hA (ct_A_point hty g (rb_R h o) (xs (i + 1))) ms_W_61 ⟨by omega, by omega⟩ md_W_law_359 rfl rfl Nat.zero_lt_one rfl (Nat.le_of_ble_eq_true rfl) ⟨by omega, by omega⟩ ?_
  refine mg_aload_n K md_W_law_362 rfl ?_
  refine mg_aload_n K md_W_law_363 rfl ?_
  refine mg_iload K md_W_law_364 rfl ?_
  refine mg_iconst K (v := 1) md_W_law_366 (by decide) ?_
  refine mg_iadd K md_W_law_367 ?_
  rw [show Int32.ofNat i + 1 = Int32.ofNat (i + 1) from mi_pl i 1]
  refine mg_sld (i := i + 1) K hX hbl hbA (by omega) hn md_W_law_368 ?_
  refine mr_cV K hA (ct_B_point hty (ca_pt g (xs (i + 1))) h o (xs (i + 1))) ms_W_65 ⟨by omega, by omega⟩ md_W_law_369 rfl rfl Nat.zero_lt_one rfl (Nat.le_of_ble_eq_true rfl) ⟨by omega, by omega⟩ ?_
  refine mg_icmp_eq K 846 md_W_law_372 rfl (fun _ => ?_) (fun hne => absurd ((sm_point T _).1) hne)
  refine mg_widen (ce := cells + 1) (sl := slots + 8) (by omega) (by omega) ?_
  exact kk ad _ _ _ ((sm_point T _).2)
end LW3
