/-! the law's steps -/
theorem ma_hq (h : rb_S) (o : Int64) : ∀ k i f x, 20 ≤ k → i < mr_pn (rb_R h o) k → mr_rv (rb_R h o) k i f = some x → x.2 < mr_pn (rb_R h o) x.1 ∧ 20 ≤ x.1 := by
  intro k i f x _ _ hx
  change (if k = 20 then rb_fd f else none) = some x at hx
  split at hx
  · obtain ⟨h1, h2, h3⟩ := rb_fd_c hx
    refine ⟨?_, by omega⟩
    show x.2 < (if x.1 < 38 then 1 else if x.1 = 40 then 1 else 0)
    rw [if_pos h3, h1]
    exact Nat.zero_lt_one
  · cases hx
/-- how the law goes on behind a step -/
def lw_N (p : Program) (l : Launch) (e : Env) (R : Room) (s : State) (m : MethodId) (args : Array Value) (below : List Frame) (meth : Method) (c : Code) (Q : State → Prop) (D : va_G) (Z : Nat × Cell) (tys : List (ClassId × FieldType)) (A : Nat → Prop) (H0 : Heap) (b i cells slots : Nat) : Prop :=
  ∀ (ad : mg_Ad) (g : ca_S) (h : rb_S) (o : Int64), sm_T g h → mg_G p l e R s m args below meth c D mn_cl Z A H0 7 Q ad (mr_C tys ma_sh ad (ma_R g (rb_R h o))) [some (va_rf (some b)), some (va_rf (some (ad 0 0))), some (va_rf (some (ad 20 0))), some (va_rf (some (ad 40 0))), some (.int (Int32.ofNat i))] (cells + 1) (slots + 8) [] 846
section LW3
variable {p : Program} {l : Launch} {e : Env} {R : Room} {s : State} {m : MethodId} {args : Array Value} {below : List Frame} {meth : Method} {c : Code} {Q : State → Prop}
variable {D : va_G} {Z : Nat × Cell} {tys : List (ClassId × FieldType)} {A : Nat → Prop} {H0 : Heap} {ad : mg_Ad} {cells slots : Nat}
theorem lw_count (K : mg_K p m c mc_W_law 7 s args mb_B mn_RW D mn_cl Z tys) (hty : tys.map (·.2) = ma_ty) (hA : ∀ q, H0.size ≤ q → A q) (hR : 11 ≤ R.frames ∧ 390 ≤ R.locals) {b n : Nat} {xs : Nat → Int32} (hX : va_X b n xs s H0) (hbl : b < H0.size) (hbA : ¬ A b) (hn : n ≤ 3072) {i : Nat} (hi : i + 6 ≤ n) (hc : cells + 1 ≤ R.cells) (hs : slots + 8 ≤ R.slots) {g : ca_S} {h : rb_S} {o : Int64} (T : sm_T g h) (kk : lw_N p l e R s m args below meth c Q D Z tys A H0 b i cells slots) : mg_G p l e R s m args below meth c D mn_cl Z A H0 7 Q ad (mr_C tys ma_sh ad (ma_R g (rb_R h o))) [some (va_rf (some b)), some (va_rf (some (ad 0 0))), some (va_rf (some (ad 20 0))), some (va_rf (some (ad 40 0))), some (.int (Int32.ofNat i))] cells slots [] 821 := by
  refine mg_aload_n K md_W_law_821 rfl ?_
  refine mg_aload_n K md_W_law_822 rfl ?_
  refine mg_iload K md_W_law_823 rfl ?_
  refine mg_iconst K (v := 1) md_W_law_825 (by decide) ?_
  refine mg_iadd K md_W_law_826 ?_
  rw [show Int32.ofNat i + 1 = Int32.ofNat (i + 1) from mi_pl i 1]
  refine mg_sld (i := i + 1) K hX hbl hbA (by omega) hn md_W_law_827 ?_
  refine mr_cV K hA (ct_A_count hty g (rb_R h o) (xs (i + 1))) ms_W_99 ⟨by omega, by omega⟩ md_W_law_828 rfl rfl Nat.zero_lt_one rfl (Nat.le_of_ble_eq_true rfl) ⟨by omega, by omega⟩ ?_
  refine mg_aload_n K md_W_law_831 rfl ?_
  refine mg_aload_n K md_W_law_832 rfl ?_
  refine mg_iload K md_W_law_833 rfl ?_
  refine mg_iconst K (v := 1) md_W_law_835 (by decide) ?_
  refine mg_iadd K md_W_law_836 ?_
  rw [show Int32.ofNat i + 1 = Int32.ofNat (i + 1) from mi_pl i 1]
  refine mg_sld (i := i + 1) K hX hbl hbA (by omega) hn md_W_law_837 ?_
  refine mr_cV K hA (ct_B_count hty g h o (xs (i + 1))) ms_W_102 ⟨by omega, by omega⟩ md_W_law_838 rfl rfl Nat.zero_lt_one rfl (Nat.le_of_ble_eq_true rfl) ⟨by omega, by omega⟩ ?_
  refine mg_icmp_eq K 846 md_W_law_841 rfl (fun _ => ?_) (fun hne => absurd (sm_count T _) hne)
  refine mg_widen (ce := cells + 1) (sl := slots + 8) (by omega) (by omega) ?_
  exact kk ad _ _ _ (sm_T0 T 0)
theorem lw_act (K : mg_K p m c mc_W_law 7 s args mb_B mn_RW D mn_cl Z tys) (hty : tys.map (·.2) = ma_ty) (hA : ∀ q, H0.size ≤ q → A q) (hR : 11 ≤ R.frames ∧ 390 ≤ R.locals) {b n : Nat} {xs : Nat → Int32} (hX : va_X b n xs s H0) (hbl : b < H0.size) (hbA : ¬ A b) (hn : n ≤ 3072) {i : Nat} (hi : i + 6 ≤ n) (hc : cells + 1 ≤ R.cells) (hs : slots + 8 ≤ R.slots) {g : ca_S} {h : rb_S} {o : Int64} (T : sm_T g h) (kk : lw_N p l e R s m args below meth c Q D Z tys A H0 b i cells slots) : mg_G p l e R s m args below meth c D mn_cl Z A H0 7 Q ad (mr_C tys ma_sh ad (ma_R g (rb_R h o))) [some (va_rf (some b)), some (va_rf (some (ad 0 0))), some (va_rf (some (ad 20 0))), some (va_rf (some (ad 40 0))), some (.int (Int32.ofNat i))] cells slots [] 734 := by
  have hok : ca_ok g := by obtain ⟨_, _, _, _, S, -, -⟩ := T; exact S.1.2.2.2.2.2.1
  have ho : rb_ok h := by obtain ⟨_, _, _, _, S, -, -⟩ := T; exact S.1.2.2.2.2.2.2.1
  refine mg_aload_n K md_W_law_734 rfl ?_
  refine mg_aload_n K md_W_law_735 rfl ?_
  refine mg_iload K md_W_law_736 rfl ?_
  refine mg_iconst K (v := 1) md_W_law_738 (by decide) ?_
  refine mg_iadd K md_W_law_739 ?_
  rw [show Int32.ofNat i + 1 = Int32.ofNat (i + 1) from mi_pl i 1]
  refine mg_sld (i := i + 1) K hX hbl hbA (by omega) hn md_W_law_740 ?_
  refine mr_cV K hA (ct_A_act hty g (rb_R h o) (xs (i + 1)) hok) ms_W_87 ⟨by omega, by omega⟩ md_W_law_741 rfl rfl Nat.zero_lt_one rfl (Nat.le_of_ble_eq_true rfl) ⟨by omega, by omega⟩ ?_
  refine mg_aload_n K md_W_law_744 rfl ?_
  refine mg_aload_n K md_W_law_745 rfl ?_
  refine mg_iload K md_W_law_746 rfl ?_
  refine mg_iconst K (v := 1) md_W_law_748 (by decide) ?_
  refine mg_iadd K md_W_law_749 ?_
  rw [show Int32.ofNat i + 1 = Int32.ofNat (i + 1) from mi_pl i 1]
  refine mg_sld (i := i + 1) K hX hbl hbA (by omega) hn md_W_law_750 ?_
  refine mr_cV K hA (ct_B_act hty g h o (xs (i + 1)) ho.2.1 (cp_le _) ho.2.2.2.1) ms_W_90 ⟨by omega, by omega⟩ md_W_law_751 rfl rfl Nat.zero_lt_one rfl (Nat.le_of_ble_eq_true rfl) ⟨by omega, by omega⟩ ?_
  refine mg_icmp_eq K 846 md_W_law_754 rfl (fun _ => ?_) (fun hne => absurd ((by obtain ⟨_, _, _, _, S, -, -⟩ := T; exact sm_at S.1 S.2.1.1 S.2.2.1 _)) hne)
  refine mg_widen (ce := cells + 1) (sl := slots + 8) (by omega) (by omega) ?_
  exact kk ad _ _ _ (sm_T0 T 0)
theorem lw_dead (K : mg_K p m c mc_W_law 7 s args mb_B mn_RW D mn_cl Z tys) (hty : tys.map (·.2) = ma_ty) (hA : ∀ q, H0.size ≤ q → A q) (hR : 11 ≤ R.frames ∧ 390 ≤ R.locals) {b n : Nat} {xs : Nat → Int32} (hX : va_X b n xs s H0) (hbl : b < H0.size) (hbA : ¬ A b) (hn : n ≤ 3072) {i : Nat} (hi : i + 6 ≤ n) (hc : cells + 1 ≤ R.cells) (hs : slots + 8 ≤ R.slots) {g : ca_S} {h : rb_S} {o : Int64} (T : sm_T g h) (kk : lw_N p l e R s m args below meth c Q D Z tys A H0 b i cells slots) : mg_G p l e R s m args below meth c D mn_cl Z A H0 7 Q ad (mr_C tys ma_sh ad (ma_R g (rb_R h o))) [some (va_rf (some b)), some (va_rf (some (ad 0 0))), some (va_rf (some (ad 20 0))), some (va_rf (some (ad 40 0))), some (.int (Int32.ofNat i))] cells slots [] 759 := by
  have hok : ca_ok g := by obtain ⟨_, _, _, _, S, -, -⟩ := T; exact S.1.2.2.2.2.2.1
  have ho : rb_ok h := by obtain ⟨_, _, _, _, S, -, -⟩ := T; exact S.1.2.2.2.2.2.2.1
  refine mg_aload_n K md_W_law_759 rfl ?_
  refine mg_aload_n K md_W_law_760 rfl ?_
  refine mg_iload K md_W_law_761 rfl ?_
  refine mg_iconst K (v := 1) md_W_law_763 (by decide) ?_
  refine mg_iadd K md_W_law_764 ?_
  rw [show Int32.ofNat i + 1 = Int32.ofNat (i + 1) from mi_pl i 1]
  refine mg_sld (i := i + 1) K hX hbl hbA (by omega) hn md_W_law_765 ?_
  refine mr_cV K hA (ct_A_dead hty g (rb_R h o) (xs (i + 1)) hok) ms_W_91 ⟨by omega, by omega⟩ md_W_law_766 rfl rfl Nat.zero_lt_one rfl (Nat.le_of_ble_eq_true rfl) ⟨by omega, by omega⟩ ?_
  refine mg_aload_n K md_W_law_769 rfl ?_
  refine mg_aload_n K md_W_law_770 rfl ?_
  refine mg_iload K md_W_law_771 rfl ?_
  refine mg_iconst K (v := 1) md_W_law_773 (by decide) ?_
  refine mg_iadd K md_W_law_774 ?_
  rw [show Int32.ofNat i + 1 = Int32.ofNat (i + 1) from mi_pl i 1]
  refine mg_sld (i := i + 1) K hX hbl hbA (by omega) hn md_W_law_775 ?_
  refine mr_cV K hA (ct_B_dead hty g h o (xs (i + 1)) ho.2.2.1 (cp_le _) ho.2.2.2.2) ms_W_94 ⟨by omega, by omega⟩ md_W_law_776 rfl rfl Nat.zero_lt_one rfl (Nat.le_of_ble_eq_true rfl) ⟨by omega, by omega⟩ ?_
  refine mg_icmp_eq K 846 md_W_law_779 rfl (fun _ => ?_) (fun hne => absurd ((by obtain ⟨_, _, _, _, S, -, -⟩ := T; exact sm_at S.1 S.2.1.2.1 S.2.2.2.1 _)) hne)
  refine mg_widen (ce := cells + 1) (sl := slots + 8) (by omega) (by omega) ?_
  exact kk ad _ _ _ (sm_T0 T 0)
theorem lw_point (K : mg_K p m c mc_W_law 7 s args mb_B mn_RW D mn_cl Z tys) (hty : tys.map (·.2) = ma_ty) (hA : ∀ q, H0.size ≤ q → A q) (hR : 11 ≤ R.frames ∧ 390 ≤ R.locals) {b n : Nat} {xs : Nat → Int32} (hX : va_X b n xs s H0) (hbl : b < H0.size) (hbA : ¬ A b) (hn : n ≤ 3072) {i : Nat} (hi : i + 6 ≤ n) (hc : cells + 1 ≤ R.cells) (hs : slots + 8 ≤ R.slots) {g : ca_S} {h : rb_S} {o : Int64} (T : sm_T g h) (kk : lw_N p l e R s m args below meth c Q D Z tys A H0 b i cells slots) : mg_G p l e R s m args below meth c D mn_cl Z A H0 7 Q ad (mr_C tys ma_sh ad (ma_R g (rb_R h o))) [some (va_rf (some b)), some (va_rf (some (ad 0 0))), some (va_rf (some (ad 20 0))), some (va_rf (some (ad 40 0))), some (.int (Int32.ofNat i))] cells slots [] 352 := by
  refine mg_aload_n K md_W_law_352 rfl ?_
  refine mg_aload_n K md_W_law_353 rfl ?_
  refine mg_iload K md_W_law_354 rfl ?_
  refine mg_iconst K (v := 1) md_W_law_356 (by decide) ?_
  refine mg_iadd K md_W_law_357 ?_
  rw [show Int32.ofNat i + 1 = Int32.ofNat (i + 1) from mi_pl i 1]
  refine mg_sld (i := i + 1) K hX hbl hbA (by omega) hn md_W_law_358 ?_
  refine mr_cV K hA (ct_A_point hty g (rb_R h o) (xs (i + 1))) ms_W_61 ⟨by omega, by omega⟩ md_W_law_359 rfl rfl Nat.zero_lt_one rfl (Nat.le_of_ble_eq_true rfl) ⟨by omega, by omega⟩ ?_
  refine mg_aload_n K md_W_law_362 rfl ?_
  refine mg_aload_n K md_W_law_363 rfl ?_
  refine mg_iload K md_W_law_364 rfl ?_
  refine mg_iconst K (v := 1) md_W_law_366 (by decide) ?_
  refine mg_iadd K md_W_law_367 ?_
  rw [show Int32.ofNat i + 1 = Int32.ofNat (i + 1) from mi_pl i 1]
  refine mg_sld (i := i + 1) K hX hbl hbA (by omega) hn md_W_law_368 ?_
  refine mr_cV K hA (ct_B_point hty (ca_pt g (xs (i + 1))) h o (xs (i + 1))) ms_W_65 ⟨by omega, by omega⟩ md_W_law_369 rfl rfl Nat.zero_lt_one rfl (Nat.le_of_ble_eq_true rfl) ⟨by omega, by omega⟩ ?_
  refine mg_icmp_eq K 846 md_W_law_372 rfl (fun _ => ?_) (fun hne => absurd ((sm_point T _).1) hne)
  refine mg_widen (ce := cells + 1) (sl := slots + 8) (by omega) (by omega) ?_
  exact kk ad _ _ _ ((sm_point T _).2)
theorem cu_B_of {l : Launch} {D : va_G} {Z : Nat × Cell} {tys : List (ClassId × FieldType)} {ad : mg_Ad} (hty : tys.map (·.2) = ma_ty) (g : ca_S) (h : rb_S) (o : Int64) (x w : Int32) : mr_M l my_B_of mc_B_of 8 (some .int) 3 D mn_cl Z mb_B tys ma_sh [va_rf (some (ad 20 0)), .int x, .int w] ad (ma_R g (rb_R h o)) (some (.int (if (¬ x < 0 ∧ ¬ 4 ≤ x) ∧ (¬ w < 0 ∧ ¬ 3 < w) then rb_of h x.toNatClampNeg w else -1))) (ma_R g (rb_R (mg_u h 20 0 0) o)) := by
  by_cases hv : (¬ x < 0 ∧ ¬ 4 ≤ x) ∧ (¬ w < 0 ∧ ¬ 3 < w)
  · rw [if_pos hv]
    obtain ⟨u, hu, rfl⟩ := mi_ex hv.1.1
    have h4 : u < 4 := by have := mt (mi_le (a := 4) (b := u) (by omega) hu).mpr hv.1.2; omega
    rw [mi_tn hu]
    exact ct_B_of hty g h o w h4 hv.2
  · rw [if_neg hv]
    exact cx_B_of hty g h o x w hv
theorem sm_of_all {g : ca_S} {h : rb_S} (T : sm_T g h) (x w : Int32) : ca_of g x w = if (¬ x < 0 ∧ ¬ 4 ≤ x) ∧ (¬ w < 0 ∧ ¬ 3 < w) then rb_of h x.toNatClampNeg w else -1 := by
  by_cases hv : (¬ x < 0 ∧ ¬ 4 ≤ x) ∧ (¬ w < 0 ∧ ¬ 3 < w)
  · rw [if_pos hv]
    obtain ⟨u, hu, rfl⟩ := mi_ex hv.1.1
    have h4 : u < 4 := by have := mt (mi_le (a := 4) (b := u) (by omega) hu).mpr hv.1.2; omega
    rw [mi_tn hu]
    exact sm_of_eq T h4 hv.2
  · rw [if_neg hv]
    unfold ca_of
    by_cases hx : cv_s x
    · have n : ∀ z : Int32, (¬ z < 0 ∧ ¬ 3 < z) → ¬ w = z := fun z hz e => hv ⟨hx, by rw [e]; exact hz⟩
      rw [if_pos hx, if_neg (n 0 (by decide)), if_neg (n 1 (by decide)), if_neg (n 2 (by decide)), if_neg (n 3 (by decide))]
    · rw [if_neg hx]
theorem lw_of (K : mg_K p m c mc_W_law 7 s args mb_B mn_RW D mn_cl Z tys) (hty : tys.map (·.2) = ma_ty) (hA : ∀ q, H0.size ≤ q → A q) (hR : 11 ≤ R.frames ∧ 390 ≤ R.locals) {b n : Nat} {xs : Nat → Int32} (hX : va_X b n xs s H0) (hbl : b < H0.size) (hbA : ¬ A b) (hn : n ≤ 3072) {i : Nat} (hi : i + 6 ≤ n) (hc : cells + 1 ≤ R.cells) (hs : slots + 8 ≤ R.slots) {g : ca_S} {h : rb_S} {o : Int64} (T : sm_T g h) (kk : lw_N p l e R s m args below meth c Q D Z tys A H0 b i cells slots) : mg_G p l e R s m args below meth c D mn_cl Z A H0 7 Q ad (mr_C tys ma_sh ad (ma_R g (rb_R h o))) [some (va_rf (some b)), some (va_rf (some (ad 0 0))), some (va_rf (some (ad 20 0))), some (va_rf (some (ad 40 0))), some (.int (Int32.ofNat i))] cells slots [] 784 := by
  have hok : ca_ok g := by obtain ⟨_, _, _, _, S, -, -⟩ := T; exact S.1.2.2.2.2.2.1
  have ho : rb_ok h := by obtain ⟨_, _, _, _, S, -, -⟩ := T; exact S.1.2.2.2.2.2.2.1
  refine mg_aload_n K md_W_law_784 rfl ?_
  refine mg_aload_n K md_W_law_785 rfl ?_
  refine mg_iload K md_W_law_786 rfl ?_
  refine mg_iconst K (v := 1) md_W_law_788 (by decide) ?_
  refine mg_iadd K md_W_law_789 ?_
  rw [show Int32.ofNat i + 1 = Int32.ofNat (i + 1) from mi_pl i 1]
  refine mg_sld (i := i + 1) K hX hbl hbA (by omega) hn md_W_law_790 ?_
  refine mg_aload_n K md_W_law_791 rfl ?_
  refine mg_iload K md_W_law_792 rfl ?_
  refine mg_iconst K (v := 2) md_W_law_794 (by decide) ?_
  refine mg_iadd K md_W_law_795 ?_
  rw [show Int32.ofNat i + 2 = Int32.ofNat (i + 2) from mi_pl i 2]
  refine mg_sld (i := i + 2) K hX hbl hbA (by omega) hn md_W_law_796 ?_
  refine mr_cV K hA (ct_A_of hty g (rb_R h o) (xs (i + 1)) (xs (i + 2)) hok) ms_W_95 ⟨by omega, by omega⟩ md_W_law_797 rfl rfl Nat.zero_lt_one rfl (Nat.le_of_ble_eq_true rfl) ⟨by omega, by omega⟩ ?_
  refine mg_aload_n K md_W_law_800 rfl ?_
  refine mg_aload_n K md_W_law_801 rfl ?_
  refine mg_iload K md_W_law_802 rfl ?_
  refine mg_iconst K (v := 1) md_W_law_804 (by decide) ?_
  refine mg_iadd K md_W_law_805 ?_
  rw [show Int32.ofNat i + 1 = Int32.ofNat (i + 1) from mi_pl i 1]
  refine mg_sld (i := i + 1) K hX hbl hbA (by omega) hn md_W_law_806 ?_
  refine mg_aload_n K md_W_law_807 rfl ?_
  refine mg_iload K md_W_law_808 rfl ?_
  refine mg_iconst K (v := 2) md_W_law_810 (by decide) ?_
  refine mg_iadd K md_W_law_811 ?_
  rw [show Int32.ofNat i + 2 = Int32.ofNat (i + 2) from mi_pl i 2]
  refine mg_sld (i := i + 2) K hX hbl hbA (by omega) hn md_W_law_812 ?_
  refine mr_cV K hA (cu_B_of hty g h o (xs (i + 1)) (xs (i + 2))) ms_W_98 ⟨by omega, by omega⟩ md_W_law_813 rfl rfl Nat.zero_lt_one rfl (Nat.le_of_ble_eq_true rfl) ⟨by omega, by omega⟩ ?_
  refine mg_icmp_eq K 846 md_W_law_816 rfl (fun _ => ?_) (fun hne => absurd (sm_of_all T _ _) hne)
  refine mg_widen (ce := cells + 1) (sl := slots + 8) (by omega) (by omega) ?_
  exact kk ad _ _ _ (sm_T0 T 0)
theorem lw_fails (K : mg_K p m c mc_W_law 7 s args mb_B mn_RW D mn_cl Z tys) (hty : tys.map (·.2) = ma_ty) (hA : ∀ q, H0.size ≤ q → A q) (hR : 11 ≤ R.frames ∧ 390 ≤ R.locals) {b n : Nat} {xs : Nat → Int32} (hX : va_X b n xs s H0) (hbl : b < H0.size) (hbA : ¬ A b) (hn : n ≤ 3072) {i : Nat} (hi : i + 6 ≤ n) (hc : cells + 1 ≤ R.cells) (hs : slots + 8 ≤ R.slots) {g : ca_S} {h : rb_S} {o : Int64} (T : sm_T g h) (kk : lw_N p l e R s m args below meth c Q D Z tys A H0 b i cells slots) : mg_G p l e R s m args below meth c D mn_cl Z A H0 7 Q ad (mr_C tys ma_sh ad (ma_R g (rb_R h o))) [some (va_rf (some b)), some (va_rf (some (ad 0 0))), some (va_rf (some (ad 20 0))), some (va_rf (some (ad 40 0))), some (.int (Int32.ofNat i))] cells slots [] 377 := by
  refine mg_aload_n K md_W_law_377 rfl ?_
  refine mg_aload_n K md_W_law_378 rfl ?_
  refine mg_iload K md_W_law_379 rfl ?_
  refine mg_iconst K (v := 1) md_W_law_381 (by decide) ?_
  refine mg_iadd K md_W_law_382 ?_
  rw [show Int32.ofNat i + 1 = Int32.ofNat (i + 1) from mi_pl i 1]
  refine mg_sld (i := i + 1) K hX hbl hbA (by omega) hn md_W_law_383 ?_
  refine mg_aload_n K md_W_law_384 rfl ?_
  refine mg_iload K md_W_law_385 rfl ?_
  refine mg_iconst K (v := 2) md_W_law_387 (by decide) ?_
  refine mg_iadd K md_W_law_388 ?_
  rw [show Int32.ofNat i + 2 = Int32.ofNat (i + 2) from mi_pl i 2]
  refine mg_sld (i := i + 2) K hX hbl hbA (by omega) hn md_W_law_389 ?_
  refine mg_if_eq K 397 md_W_law_390 rfl (fun hb => ?_) (fun hb => ?_)
  · refine mg_iconst K (v := 0) md_W_law_397 (by decide) ?_
    refine mr_cV K hA (ct_A_fails hty g (rb_R h o) (xs (i + 1)) 0 (Or.inl rfl)) ms_W_66 ⟨by omega, by omega⟩ md_W_law_398 rfl rfl Nat.zero_lt_one rfl (Nat.le_of_ble_eq_true rfl) ⟨by omega, by omega⟩ ?_
    refine mg_aload_n K md_W_law_401 rfl ?_
    refine mg_aload_n K md_W_law_402 rfl ?_
    refine mg_iload K md_W_law_403 rfl ?_
    refine mg_iconst K (v := 1) md_W_law_405 (by decide) ?_
    refine mg_iadd K md_W_law_406 ?_
    rw [show Int32.ofNat i + 1 = Int32.ofNat (i + 1) from mi_pl i 1]
    refine mg_sld (i := i + 1) K hX hbl hbA (by omega) hn md_W_law_407 ?_
    refine mg_aload_n K md_W_law_408 rfl ?_
    refine mg_iload K md_W_law_409 rfl ?_
    refine mg_iconst K (v := 2) md_W_law_411 (by decide) ?_
    refine mg_iadd K md_W_law_412 ?_
    rw [show Int32.ofNat i + 2 = Int32.ofNat (i + 2) from mi_pl i 2]
    refine mg_sld (i := i + 2) K hX hbl hbA (by omega) hn md_W_law_413 ?_
    refine mg_if_eq K 421 md_W_law_414 rfl (fun _ => ?_) (fun z => absurd hb z)
    refine mg_iconst K (v := 0) md_W_law_421 (by decide) ?_
    refine mr_cV K hA (ct_B_fails hty (ca_fl g (xs (i + 1)) 0) h o (xs (i + 1)) 0 (Or.inl rfl)) ms_W_70 ⟨by omega, by omega⟩ md_W_law_422 rfl rfl Nat.zero_lt_one rfl (Nat.le_of_ble_eq_true rfl) ⟨by omega, by omega⟩ ?_
    refine mg_icmp_eq K 846 md_W_law_425 rfl (fun _ => ?_) (fun hne => absurd (sm_fails T _ _).1 hne)
    refine mg_widen (ce := cells + 1) (sl := slots + 8) (by omega) (by omega) ?_
    exact kk ad _ _ _ (sm_fails T _ _).2
  · refine mg_iconst K (v := 1) md_W_law_393 (by decide) ?_
    refine mg_goto K 398 md_W_law_394 rfl ?_
    refine mr_cV K hA (ct_A_fails hty g (rb_R h o) (xs (i + 1)) 1 (Or.inr rfl)) ms_W_66 ⟨by omega, by omega⟩ md_W_law_398 rfl rfl Nat.zero_lt_one rfl (Nat.le_of_ble_eq_true rfl) ⟨by omega, by omega⟩ ?_
    refine mg_aload_n K md_W_law_401 rfl ?_
    refine mg_aload_n K md_W_law_402 rfl ?_
    refine mg_iload K md_W_law_403 rfl ?_
    refine mg_iconst K (v := 1) md_W_law_405 (by decide) ?_
    refine mg_iadd K md_W_law_406 ?_
    rw [show Int32.ofNat i + 1 = Int32.ofNat (i + 1) from mi_pl i 1]
    refine mg_sld (i := i + 1) K hX hbl hbA (by omega) hn md_W_law_407 ?_
    refine mg_aload_n K md_W_law_408 rfl ?_
    refine mg_iload K md_W_law_409 rfl ?_
    refine mg_iconst K (v := 2) md_W_law_411 (by decide) ?_
    refine mg_iadd K md_W_law_412 ?_
    rw [show Int32.ofNat i + 2 = Int32.ofNat (i + 2) from mi_pl i 2]
    refine mg_sld (i := i + 2) K hX hbl hbA (by omega) hn md_W_law_413 ?_
    refine mg_if_eq K 421 md_W_law_414 rfl (fun z => absurd z hb) (fun _ => ?_)
    refine mg_iconst K (v := 1) md_W_law_417 (by decide) ?_
    refine mg_goto K 422 md_W_law_418 rfl ?_
    refine mr_cV K hA (ct_B_fails hty (ca_fl g (xs (i + 1)) 1) h o (xs (i + 1)) 1 (Or.inr rfl)) ms_W_70 ⟨by omega, by omega⟩ md_W_law_422 rfl rfl Nat.zero_lt_one rfl (Nat.le_of_ble_eq_true rfl) ⟨by omega, by omega⟩ ?_
    refine mg_icmp_eq K 846 md_W_law_425 rfl (fun _ => ?_) (fun hne => absurd (sm_fails T _ _).1 hne)
    refine mg_widen (ce := cells + 1) (sl := slots + 8) (by omega) (by omega) ?_
    exact kk ad _ _ _ (sm_fails T _ _).2
end LW3
