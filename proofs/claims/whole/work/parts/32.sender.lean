/-! Sender: its numbers -/
theorem mi_num {n : Nat} (h1 : 1 ≤ n) (h2 : n ≤ 24) : (if ¬ Int32.ofNat n < 1 ∧ ¬ 24 < Int32.ofNat n then (1 : Int32) else 0) = 1 :=
  if_pos ⟨fun z => by have := (mi_lt (a := n) (b := 1) (by omega) (by omega)).mp z; omega, fun z => by have := (mi_lt (a := 24) (b := n) (by omega) (by omega)).mp z; omega⟩
theorem mi_m1 (n : Nat) : Int32.ofNat (n + 1) + Int32.ofInt (-1) = Int32.ofNat n := by
  have h : Int32.ofInt (-1) = -1 := by decide
  rw [h, ← Int32.sub_eq_add_neg, mi_s1]
def ca_tv (g : ca_S) (s n : Nat) : Option (Nat × Nat) := (ca_tb g s n).map (fun j => (10, j))
theorem ca_tv_n {g : ca_S} {s n : Nat} (h : ca_tb g s n = none) : ca_tv g s n = none := by unfold ca_tv; rw [h]; rfl
theorem ca_tv_s {g : ca_S} {s n j : Nat} (h : ca_tb g s n = some j) : ca_tv g s n = some (10, j) := by unfold ca_tv; rw [h]; rfl
theorem ca_beh_N {g : ca_S} {s n f : Nat} {b : Int32} (h : ca_tb g s n = none) : ca_beh g s b n (f + 1) = ca_beh g s b (n + 1) f := by
  show ((match ca_tb g s n with | none => false | some j => decide (¬ ca_iv g 10 j 4 = 6) && decide (ca_iv g 10 j 6 < b)) || ca_beh g s b (n + 1) f) = _
  rw [h]
  rfl
theorem ca_beh_S {g : ca_S} {s n f j : Nat} {b : Int32} (h : ca_tb g s n = some j) : ca_beh g s b n (f + 1) = ((decide (¬ ca_iv g 10 j 4 = 6) && decide (ca_iv g 10 j 6 < b)) || ca_beh g s b (n + 1) f) := by
  show ((match ca_tb g s n with | none => false | some j => decide (¬ ca_iv g 10 j 4 = 6) && decide (ca_iv g 10 j 6 < b)) || ca_beh g s b (n + 1) f) = _
  rw [h]
theorem ca_cnt_N {g : ca_S} {s n f a : Nat} {b : Int32} (h : ca_tb g s n = none) : ca_cnt g s b n (f + 1) a = ca_cnt g s b (n + 1) f a := by
  show ca_cnt g s b (n + 1) f (match ca_tb g s n with | none => a | some j => if ca_iv g 10 j 4 = b then a + 1 else a) = _
  rw [h]
theorem ca_cnt_S {g : ca_S} {s n f a j : Nat} {b : Int32} (h : ca_tb g s n = some j) : ca_cnt g s b n (f + 1) a = ca_cnt g s b (n + 1) f (if ca_iv g 10 j 4 = b then a + 1 else a) := by
  show ca_cnt g s b (n + 1) f (match ca_tb g s n with | none => a | some j => if ca_iv g 10 j 4 = b then a + 1 else a) = _
  rw [h]
theorem ca_lose_N {g : ca_S} {s n f a : Nat} (h : ca_tb g s n = none) : ca_lose s n (f + 1) g a = ca_lose s (n + 1) f g a := by
  show (match ca_tb g s n with | none => ca_lose s (n + 1) f g a | some j => if ca_iv g 10 j 4 = 0 then ca_lose s (n + 1) f (ca_si g 10 j 4 6) (a + 1) else ca_lose s (n + 1) f g a) = _
  rw [h]
theorem ca_lose_S {g : ca_S} {s n f a j : Nat} (h : ca_tb g s n = some j) : ca_lose s n (f + 1) g a = if ca_iv g 10 j 4 = 0 then ca_lose s (n + 1) f (ca_si g 10 j 4 6) (a + 1) else ca_lose s (n + 1) f g a := by
  show (match ca_tb g s n with | none => ca_lose s (n + 1) f g a | some j => if ca_iv g 10 j 4 = 0 then ca_lose s (n + 1) f (ca_si g 10 j 4 6) (a + 1) else ca_lose s (n + 1) f g a) = _
  rw [h]
def ca_stb (g : ca_S) (s n : Nat) (x : Option Nat) : ca_S := (g.1, fun a b => if a = s ∧ b = n then x else g.2.1 a b, g.2.2)
theorem ma_tb (g : ca_S) (q : mr_St) (s n : Nat) (x : Option Nat) : mr_sR (ma_R g q) 5 s n (x.map (fun j => (10, j))) = ma_R (ca_stb g s n x) q := by
  refine Prod.ext rfl (Prod.ext rfl (Prod.ext ?_ rfl))
  funext a b c
  show mr_u3 (ma_rv g q) 5 s n _ a b c = ma_rv (ca_stb g s n x) q a b c
  by_cases h : a = 5 ∧ b = s ∧ c = n
  · obtain ⟨rfl, rfl, rfl⟩ := h
    rw [mr_u3_s]
    show _ = (ca_tb (ca_stb g b c x) b c).map _
    have : ca_tb (ca_stb g b c x) b c = x := if_pos ⟨rfl, rfl⟩
    rw [this]
  · rw [mr_u3_n _ _ _ _ _ h]
    by_cases ha : a = 5
    · subst ha
      show (ca_tb g b c).map _ = (ca_tb (ca_stb g s n x) b c).map _
      have : ca_tb (ca_stb g s n x) b c = ca_tb g b c := if_neg (fun z => h ⟨rfl, z.1, z.2⟩)
      rw [this]
    · unfold ma_rv
      simp only [ha, if_false]
      rfl
section CS2
variable {l : Launch} {D : va_G} {Z : Nat × Cell} {tys : List (ClassId × FieldType)} {ad : mg_Ad}
theorem ct_S_get (hty : tys.map (·.2) = ma_ty) (g : ca_S) (q : mr_St) {s0 n : Nat} (hs : s0 < 4) (h1 : 1 ≤ n) (h24 : n ≤ 24) : mr_M l my_S_get mc_S_get 2 (some (.object "MessageActs$Message")) 2 D mn_cl Z mb_B tys ma_sh [va_rf (some (ad 4 s0)), .int (Int32.ofNat n)] ad (ma_R g q) (some (va_rf (mr_a ad (ca_tv g s0 n)))) (ma_R g q) := by
  refine mg_M.of (cc := mc_S_get) (maxL := 2) (ret := (some (.object "MessageActs$Message"))) (by decide) rfl (Nat.le_of_ble_eq_true rfl) (mg_caS rfl (mg_caS rfl mg_ca0)) ?_
  intro p e s m args below meth c K hret hlk hnm hA
  refine mg_iload_n K md_S_get_0 rfl ?_
  refine mr_cPN K hA (ct_A_isNumber (Int32.ofNat n)) ms_S_21 (by decide) md_S_get_1 rfl (by decide) ⟨Nat.le_refl _, Nat.le_refl _⟩ ?_
  rw [mi_num h1 h24]
  refine mg_if_eq K 16 md_S_get_4 rfl (fun h4 => ?_) (fun h4 => ?_)
  · exact absurd h4 (by decide)
  · refine mg_aload_n K md_S_get_7 rfl ?_
    refine mr_getS K mf_S_11 md_S_get_8 hs rfl ?_
    refine mg_iload_n K md_S_get_11 rfl ?_
    refine mr_aald (v := ca_tv g s0 n) K rfl (ma_t hty 3) md_S_get_12 hs (mi_vn (by omega) (by omega)) (by rw [mi_tn (by omega)]; rfl) ?_
    refine mg_goto K 17 md_S_get_13 rfl ?_
    exact mg_aret K hret hlk md_S_get_17 (Nat.le_refl _) (Nat.le_refl _) ⟨rfl, rfl, rfl⟩
theorem ct_S_put (hty : tys.map (·.2) = ma_ty) (g : ca_S) (q : mr_St) {s0 n j : Nat} (hs : s0 < 4) (h1 : 1 ≤ n) (h24 : n ≤ 24) (hj : j < ca_nm g) : mr_M l my_S_put mc_S_put 3 none 2 D mn_cl Z mb_B tys ma_sh [va_rf (some (ad 4 s0)), .int (Int32.ofNat n), va_rf (some (ad 10 j))] ad (ma_R g q) none (ma_R (ca_stb g s0 n (some j)) q) := by
  refine mg_M.of (cc := mc_S_put) (maxL := 3) (ret := none) (by decide) rfl (Nat.le_of_ble_eq_true rfl) (mg_caS rfl (mg_caS rfl (mg_caS rfl mg_ca0))) ?_
  intro p e s m args below meth c K hret hlk hnm hA
  refine mg_iload_n K md_S_put_0 rfl ?_
  refine mr_cPN K hA (ct_A_isNumber (Int32.ofNat n)) ms_S_21 (by decide) md_S_put_1 rfl (by decide) ⟨Nat.le_refl _, Nat.le_refl _⟩ ?_
  rw [mi_num h1 h24]
  refine mg_if_eq K 14 md_S_put_4 rfl (fun h4 => ?_) (fun h4 => ?_)
  · exact absurd h4 (by decide)
  · refine mg_aload_n K md_S_put_7 rfl ?_
    refine mr_getS K mf_S_11 md_S_put_8 hs rfl ?_
    refine mg_iload_n K md_S_put_11 rfl ?_
    refine mg_aload_n K md_S_put_12 rfl ?_
    refine mr_aast (k2 := 10) (i2 := j) K rfl (ma_t hty 3) rfl rfl md_S_put_13 hs hj (mi_vn (by omega) (by omega)) ?_
    rw [mi_tn (by omega)]
    refine mr_eqr (ma_tb g q s0 n (some j)) ?_
    exact mg_vret K hret hlk md_S_put_14 (Nat.le_refl _) (Nat.le_refl _) ⟨rfl, rfl, rfl⟩
theorem ct_S_close (hty : tys.map (·.2) = ma_ty) (g : ca_S) (q : mr_St) {s0 n : Nat} (hs : s0 < 4) (h1 : 1 ≤ n) (h24 : n ≤ 24) : mr_M l my_S_close mc_S_close 2 none 2 D mn_cl Z mb_B tys ma_sh [va_rf (some (ad 4 s0)), .int (Int32.ofNat n)] ad (ma_R g q) none (ma_R (ca_si g 6 s0 n 1) q) := by
  refine mg_M.of (cc := mc_S_close) (maxL := 2) (ret := none) (by decide) rfl (Nat.le_of_ble_eq_true rfl) (mg_caS rfl (mg_caS rfl mg_ca0)) ?_
  intro p e s m args below meth c K hret hlk hnm hA
  refine mg_iload_n K md_S_close_0 rfl ?_
  refine mr_cPN K hA (ct_A_isNumber (Int32.ofNat n)) ms_S_21 (by decide) md_S_close_1 rfl (by decide) ⟨Nat.le_refl _, Nat.le_refl _⟩ ?_
  rw [mi_num h1 h24]
  refine mg_if_eq K 14 md_S_close_4 rfl (fun h4 => ?_) (fun h4 => ?_)
  · exact absurd h4 (by decide)
  · refine mg_aload_n K md_S_close_7 rfl ?_
    refine mr_getS K mf_S_17 md_S_close_8 hs rfl ?_
    refine mg_iload_n K md_S_close_11 rfl ?_
    refine mg_iconst K (v := 1) md_S_close_12 (by decide) ?_
    refine mr_zast (v := 1) K rfl (ma_t hty 2) md_S_close_13 hs (mi_vn (by omega) (by omega)) (by decide) ?_
    rw [mi_tn (by omega)]
    refine mr_eqr (ma_sI g q 6 s0 n 1 (by decide) (by decide)) ?_
    exact mg_vret K hret hlk md_S_close_14 (Nat.le_refl _) (Nat.le_refl _) ⟨rfl, rfl, rfl⟩
theorem ct_S_isHere (hty : tys.map (·.2) = ma_ty) (g : ca_S) (q : mr_St) (x : Option Nat) (hx : ∀ j, x = some j → j < ca_nm g) : mr_M l my_S_isHere mc_S_isHere 1 (some .boolean) 1 D mn_cl Z mb_B tys ma_sh [va_rf (mr_a ad (x.map (fun j => (10, j))))] ad (ma_R g q) (some (.int (if ca_here g x then 1 else 0))) (ma_R g q) := by
  cases x with
  | none =>
    refine mg_M.of (cc := mc_S_isHere) (maxL := 1) (ret := (some .boolean)) (by decide) rfl (Nat.le_of_ble_eq_true rfl) (mg_caS rfl mg_ca0) ?_
    intro p e s m args below meth c K hret hlk hnm hA
    refine mg_aload_n K md_S_isHere_0 rfl ?_
    refine mg_ifnull K 17 md_S_isHere_1 rfl (fun h1 => ?_) (fun h1 => ?_)
    · refine mg_iconst K (v := 0) md_S_isHere_17 (by decide) ?_
      exact mg_zret K hret hlk md_S_isHere_18 (by decide) (Nat.le_refl _) (Nat.le_refl _) ⟨rfl, rfl, rfl⟩
    · exact absurd rfl h1
  | some j =>
    have hj := hx j rfl
    rw [show mr_a ad ((some j).map (fun j => (10, j))) = some (ad 10 j) from rfl]
    refine mg_M.of (cc := mc_S_isHere) (maxL := 1) (ret := (some .boolean)) (by decide) rfl (Nat.le_of_ble_eq_true rfl) (mg_caS rfl mg_ca0) ?_
    intro p e s m args below meth c K hret hlk hnm hA
    refine mg_aload_n K md_S_isHere_0 rfl ?_
    refine mg_ifnull K 17 md_S_isHere_1 rfl (fun h1 => ?_) (fun h1 => ?_)
    · exact absurd h1 (fun z => by cases z)
    · refine mg_aload_n K md_S_isHere_4 rfl ?_
      refine mr_getI (v := ca_iv g 10 j 4) K mf_S_29 md_S_isHere_5 (by decide) hj rfl ?_
      refine mg_bipush K (v := 6) md_S_isHere_8 (by decide) ?_
      refine mg_icmp_eq K 17 md_S_isHere_10 rfl (fun h10 => ?_) (fun h10 => ?_)
      · refine mg_iconst K (v := 0) md_S_isHere_17 (by decide) ?_
        exact mg_zret K hret hlk md_S_isHere_18 (by decide) (Nat.le_refl _) (Nat.le_refl _) ⟨by rw [show ca_here g (some j) = false from decide_eq_false (fun z => z h10)]; rfl, rfl, rfl⟩
      · refine mg_iconst K (v := 1) md_S_isHere_13 (by decide) ?_
        refine mg_goto K 18 md_S_isHere_14 rfl ?_
        exact mg_zret K hret hlk md_S_isHere_18 (by decide) (Nat.le_refl _) (Nat.le_refl _) ⟨by rw [show ca_here g (some j) = true from decide_eq_true h10]; rfl, rfl, rfl⟩
theorem ct_S_isGap (hty : tys.map (·.2) = ma_ty) (g : ca_S) (q : mr_St) {s0 n : Nat} (hs : s0 < 4) (h1 : 1 ≤ n) (h24 : n ≤ 24) (hok : ∀ j, ca_tb g s0 n = some j → j < ca_nm g) : mr_M l my_S_isGap mc_S_isGap 2 (some .boolean) 2 D mn_cl Z mb_B tys ma_sh [va_rf (some (ad 4 s0)), .int (Int32.ofNat n)] ad (ma_R g q) (some (.int (if ca_gap g s0 n then 1 else 0))) (ma_R g q) := by
  refine mg_M.of (cc := mc_S_isGap) (maxL := 2) (ret := (some .boolean)) (by decide) rfl (Nat.le_of_ble_eq_true rfl) (mg_caS rfl (mg_caS rfl mg_ca0)) ?_
  intro p e s m args below meth c K hret hlk hnm hA
  have hg : ca_gap g s0 n = (decide (ca_iv g 6 s0 n = 0) && !ca_here g (ca_tb g s0 n)) := by unfold ca_gap; rw [decide_eq_true (⟨h1, h24⟩ : 1 ≤ n ∧ n ≤ 24), Bool.true_and]
  refine mg_iload_n K md_S_isGap_0 rfl ?_
  refine mr_cPN K hA (ct_A_isNumber (Int32.ofNat n)) ms_S_21 (by decide) md_S_isGap_1 rfl (by decide) ⟨Nat.le_refl _, Nat.le_refl _⟩ ?_
  rw [mi_num h1 h24]
  refine mg_if_eq K 32 md_S_isGap_4 rfl (fun h4 => ?_) (fun h4 => ?_)
  · exact absurd h4 (by decide)
  · refine mg_aload_n K md_S_isGap_7 rfl ?_
    refine mr_getS K mf_S_17 md_S_isGap_8 hs rfl ?_
    refine mg_iload_n K md_S_isGap_11 rfl ?_
    refine mr_zald (v := ca_iv g 6 s0 n) K rfl (ma_t hty 2) md_S_isGap_12 hs (mi_vn (by omega) (by omega)) (by rw [mi_tn (by omega)]; rfl) ?_
    refine mg_if_ne K 32 md_S_isGap_13 rfl (fun h13 => ?_) (fun h13 => ?_)
    · refine mg_iconst K (v := 0) md_S_isGap_32 (by decide) ?_
      exact mg_zret K hret hlk md_S_isGap_33 (by decide) (Nat.le_refl _) (Nat.le_refl _) ⟨by rw [hg, decide_eq_false h13]; rfl, rfl, rfl⟩
    · refine mg_aload_n K md_S_isGap_16 rfl ?_
      refine mr_getS K mf_S_11 md_S_isGap_17 hs rfl ?_
      refine mg_iload_n K md_S_isGap_20 rfl ?_
      refine mr_aald (v := (ca_tb g s0 n).map (fun j => (10, j))) K rfl (ma_t hty 3) md_S_isGap_21 hs (mi_vn (by omega) (by omega)) (by rw [mi_tn (by omega)]; rfl) ?_
      refine mr_cS K hA (ct_S_isHere hty g q (ca_tb g s0 n) hok) ms_S_25 (by decide) md_S_isGap_22 rfl (by decide) ⟨Nat.le_refl _, Nat.le_refl _⟩ ?_
      refine mg_if_ne K 32 md_S_isGap_25 rfl (fun h25 => ?_) (fun h25 => ?_)
      · refine mg_iconst K (v := 0) md_S_isGap_32 (by decide) ?_
        exact mg_zret K hret hlk md_S_isGap_33 (by decide) (Nat.le_refl _) (Nat.le_refl _) ⟨by cases hh : ca_here g (ca_tb g s0 n) with | true => rw [hg, hh, Bool.not_true, Bool.and_false]; rfl | false => rw [hh] at h25; exact absurd rfl h25, rfl, rfl⟩
      · refine mg_iconst K (v := 1) md_S_isGap_28 (by decide) ?_
        refine mg_goto K 33 md_S_isGap_29 rfl ?_
        exact mg_zret K hret hlk md_S_isGap_33 (by decide) (Nat.le_refl _) (Nat.le_refl _) ⟨by cases hh : ca_here g (ca_tb g s0 n) with | true => rw [hh] at h25; exact absurd h25 (by decide) | false => rw [hg, hh, decide_eq_true h13]; rfl, rfl, rfl⟩
theorem ct_S_leastGap (hty : tys.map (·.2) = ma_ty) (g : ca_S) (q : mr_St) {s0 : Nat} (hs : s0 < 4) (hok : ∀ n j, ca_tb g s0 n = some j → j < ca_nm g) : mr_M l my_S_leastGap mc_S_leastGap 2 (some .int) 3 D mn_cl Z mb_B tys ma_sh [va_rf (some (ad 4 s0))] ad (ma_R g q) (some (.int (Int32.ofNat (ca_lg g s0)))) (ma_R g q) := by
  refine mg_M.of (cc := mc_S_leastGap) (maxL := 2) (ret := (some .int)) (by decide) rfl (Nat.le_of_ble_eq_true rfl) (mg_caS rfl mg_ca0) ?_
  intro p e s m args below meth c K hret hlk hnm hA
  have loop : ∀ (f n : Nat), n + f = 25 → 1 ≤ n → ca_least g s0 n f = ca_lg g s0 → mg_G p l e (mg_rm 3 0 0) s m args below meth c D mn_cl Z (mg_A ad (mr_C tys ma_sh ad (ma_R g q)) s.heap.size) s.heap 2 (MQ below (mg_Qc D mn_cl Z ad (mr_C tys ma_sh ad (ma_R g q)) s.heap.size (mg_Po tys ma_sh ad (some (.int (Int32.ofNat (ca_lg g s0)))) (ma_R g q))) args s 0 0 (mg_A ad (mr_C tys ma_sh ad (ma_R g q)) s.heap.size)) ad (mr_C tys ma_sh ad (ma_R g q)) [some (va_rf (some (ad 4 s0))), some (.int (Int32.ofNat n))] 0 0 [] 2 := by
    intro f
    induction f with
    | zero =>
      intro n hn h1 hT
      have hn2 : n = 25 := by omega
      subst hn2
      refine mg_iload_n K md_S_leastGap_2 rfl ?_
      refine mg_bipush K (v := 24) md_S_leastGap_3 (by decide) ?_
      refine mg_icmp_gt K 24 md_S_leastGap_5 rfl (fun h5 => ?_) (fun h5 => ?_)
      · refine mg_bipush K (v := 25) md_S_leastGap_24 (by decide) ?_
        exact mg_iret K hret hlk md_S_leastGap_26 (Nat.le_refl _) (Nat.le_refl _) ⟨by rw [← hT]; rfl, rfl, rfl⟩
      · exact absurd ((mi_lt (a := 24) (b := 25) (by omega) (by omega)).mpr (by omega)) h5
    | succ f ih =>
      intro n hn h1 hT
      have hS : (if ca_gap g s0 n then n else ca_least g s0 (n + 1) f) = ca_lg g s0 := hT
      refine mg_iload_n K md_S_leastGap_2 rfl ?_
      refine mg_bipush K (v := 24) md_S_leastGap_3 (by decide) ?_
      refine mg_icmp_gt K 24 md_S_leastGap_5 rfl (fun h5 => ?_) (fun h5 => ?_)
      · exact absurd ((mi_lt (a := 24) (b := n) (by omega) (by omega)).mp h5) (by omega)
      · refine mg_aload_n K md_S_leastGap_8 rfl ?_
        refine mg_iload_n K md_S_leastGap_9 rfl ?_
        refine mr_cV K hA (ct_S_isGap hty g q hs h1 (by omega) (hok n)) ms_S_33 (by decide) md_S_leastGap_10 rfl rfl hs rfl (by decide) ⟨Nat.le_refl _, Nat.le_refl _⟩ ?_
        refine mg_if_eq K 18 md_S_leastGap_13 rfl (fun h13 => ?_) (fun h13 => ?_)
        · have hg : ca_gap g s0 n = false := by cases hh : ca_gap g s0 n with | true => rw [hh] at h13; exact absurd h13 (by decide) | false => rfl
          rw [if_neg (by rw [hg]; decide)] at hS
          refine mg_iinc K (v := Int32.ofNat (n + 1)) md_S_leastGap_18 rfl (mi_a1 n) (by decide) ?_
          refine mg_goto K 2 md_S_leastGap_21 rfl ?_
          exact ih (n + 1) (by omega) (by omega) hS
        · have hg : ca_gap g s0 n = true := by cases hh : ca_gap g s0 n with | true => rfl | false => rw [hh] at h13; exact absurd rfl h13
          rw [if_pos hg] at hS
          refine mg_iload_n K md_S_leastGap_16 rfl ?_
          exact mg_iret K hret hlk md_S_leastGap_17 (Nat.le_refl _) (Nat.le_refl _) ⟨by rw [← hS], rfl, rfl⟩
  refine mg_iconst K (v := 1) md_S_leastGap_0 (by decide) ?_
  refine mg_istore_n K md_S_leastGap_1 (by decide) ?_
  exact loop 24 1 (by omega) (by omega) rfl
theorem ct_S_greatest (hty : tys.map (·.2) = ma_ty) (g : ca_S) (q : mr_St) {s0 : Nat} (hs : s0 < 4) (hok : ∀ n j, ca_tb g s0 n = some j → j < ca_nm g) : mr_M l my_S_greatest mc_S_greatest 2 (some .int) 3 D mn_cl Z mb_B tys ma_sh [va_rf (some (ad 4 s0))] ad (ma_R g q) (some (.int (Int32.ofNat (ca_great g s0 24)))) (ma_R g q) := by
  refine mg_M.of (cc := mc_S_greatest) (maxL := 2) (ret := (some .int)) (by decide) rfl (Nat.le_of_ble_eq_true rfl) (mg_caS rfl mg_ca0) ?_
  intro p e s m args below meth c K hret hlk hnm hA
  have loop : ∀ (n : Nat), n ≤ 24 → ca_great g s0 n = ca_great g s0 24 → mg_G p l e (mg_rm 3 0 0) s m args below meth c D mn_cl Z (mg_A ad (mr_C tys ma_sh ad (ma_R g q)) s.heap.size) s.heap 2 (MQ below (mg_Qc D mn_cl Z ad (mr_C tys ma_sh ad (ma_R g q)) s.heap.size (mg_Po tys ma_sh ad (some (.int (Int32.ofNat (ca_great g s0 24)))) (ma_R g q))) args s 0 0 (mg_A ad (mr_C tys ma_sh ad (ma_R g q)) s.heap.size)) ad (mr_C tys ma_sh ad (ma_R g q)) [some (va_rf (some (ad 4 s0))), some (.int (Int32.ofNat n))] 0 0 [] 3 := by
    intro n
    induction n with
    | zero =>
      intro hn hT
      refine mg_iload_n K md_S_greatest_3 rfl ?_
      refine mg_if_le K 26 md_S_greatest_4 rfl (fun h4 => ?_) (fun h4 => ?_)
      · refine mg_iconst K (v := 0) md_S_greatest_26 (by decide) ?_
        exact mg_iret K hret hlk md_S_greatest_27 (Nat.le_refl _) (Nat.le_refl _) ⟨by rw [← hT]; rfl, rfl, rfl⟩
      · exact absurd ((mi_le (a := 0) (b := 0) (by omega) (by omega)).mpr (by omega)) h4
    | succ n ih =>
      intro hn hT
      have hS : (if ca_here g (ca_tb g s0 (n + 1)) then n + 1 else ca_great g s0 n) = ca_great g s0 24 := hT
      refine mg_iload_n K md_S_greatest_3 rfl ?_
      refine mg_if_le K 26 md_S_greatest_4 rfl (fun h4 => ?_) (fun h4 => ?_)
      · exact absurd ((mi_le (a := n + 1) (b := 0) (by omega) (by omega)).mp h4) (by omega)
      · refine mg_aload_n K md_S_greatest_7 rfl ?_
        refine mg_iload_n K md_S_greatest_8 rfl ?_
        refine mr_cV K hA (ct_S_get hty g q hs (by omega) hn) ms_S_36 (by decide) md_S_greatest_9 rfl rfl hs rfl (by decide) ⟨Nat.le_refl _, Nat.le_refl _⟩ ?_
        refine mr_cS K hA (ct_S_isHere hty g q (ca_tb g s0 (n + 1)) (hok (n + 1))) ms_S_25 (by decide) md_S_greatest_12 rfl (by decide) ⟨Nat.le_refl _, Nat.le_refl _⟩ ?_
        refine mg_if_eq K 20 md_S_greatest_15 rfl (fun h15 => ?_) (fun h15 => ?_)
        · have hg : ca_here g (ca_tb g s0 (n + 1)) = false := by cases hh : ca_here g (ca_tb g s0 (n + 1)) with | true => rw [hh] at h15; exact absurd h15 (by decide) | false => rfl
          rw [if_neg (by rw [hg]; decide)] at hS
          refine mg_iinc K (v := Int32.ofNat n) md_S_greatest_20 rfl (mi_m1 n) (by decide) ?_
          refine mg_goto K 3 md_S_greatest_23 rfl ?_
          exact ih (by omega) hS
        · have hg : ca_here g (ca_tb g s0 (n + 1)) = true := by cases hh : ca_here g (ca_tb g s0 (n + 1)) with | true => rfl | false => rw [hh] at h15; exact absurd rfl h15
          rw [if_pos hg] at hS
          refine mg_iload_n K md_S_greatest_18 rfl ?_
          exact mg_iret K hret hlk md_S_greatest_19 (Nat.le_refl _) (Nat.le_refl _) ⟨by rw [← hS], rfl, rfl⟩
  refine mg_bipush K (v := 24) md_S_greatest_0 (by decide) ?_
  refine mg_istore_n K md_S_greatest_2 (by decide) ?_
  exact loop 24 (by omega) rfl
theorem ct_S_cameBehind (hty : tys.map (·.2) = ma_ty) (g : ca_S) (q : mr_St) {s0 n0 : Nat} {b : Int32} (hs : s0 < 4) (hn0 : n0 ≤ 25) (hok : ∀ n j, ca_tb g s0 n = some j → j < ca_nm g) : mr_M l my_S_cameBehind mc_S_cameBehind 5 (some .boolean) 3 D mn_cl Z mb_B tys ma_sh [va_rf (some (ad 4 s0)), .int (Int32.ofNat n0), .int b] ad (ma_R g q) (some (.int (if (ca_beh g s0 b (n0 + 1) (24 - n0)) then 1 else 0))) (ma_R g q) := by
  refine mg_M.of (cc := mc_S_cameBehind) (maxL := 5) (ret := (some .boolean)) (by decide) rfl (Nat.le_of_ble_eq_true rfl) (mg_caS rfl (mg_caS rfl (mg_caS rfl mg_ca0))) ?_
  intro p e s m args below meth c K hret hlk hnm hA
  have loop : ∀ (f n : Nat), (n + f = 25 ∨ n = 26 ∧ f = 0) → 1 ≤ n → ca_beh g s0 b n f = (ca_beh g s0 b (n0 + 1) (24 - n0)) → mg_G p l e (mg_rm 3 0 0) s m args below meth c D mn_cl Z (mg_A ad (mr_C tys ma_sh ad (ma_R g q)) s.heap.size) s.heap 5 (MQ below (mg_Qc D mn_cl Z ad (mr_C tys ma_sh ad (ma_R g q)) s.heap.size (mg_Po tys ma_sh ad (some (.int (if (ca_beh g s0 b (n0 + 1) (24 - n0)) then 1 else 0))) (ma_R g q))) args s 0 0 (mg_A ad (mr_C tys ma_sh ad (ma_R g q)) s.heap.size)) ad (mr_C tys ma_sh ad (ma_R g q)) [some (va_rf (some (ad 4 s0))), some (.int (Int32.ofNat n0)), some (.int b), some (.int (Int32.ofNat n))] 0 0 [] 4 := by
    intro f
    induction f with
    | zero =>
      intro n hn h1 hT
      refine mg_iload_n K md_S_cameBehind_4 rfl ?_
      refine mg_bipush K (v := 24) md_S_cameBehind_5 (by decide) ?_
      refine mg_icmp_gt K 42 md_S_cameBehind_7 rfl (fun h7 => ?_) (fun h7 => ?_)
      · refine mg_iconst K (v := 0) md_S_cameBehind_42 (by decide) ?_
        exact mg_zret K hret hlk md_S_cameBehind_43 (by decide) (Nat.le_refl _) (Nat.le_refl _) ⟨by rw [← hT]; rfl, rfl, rfl⟩
      · exact absurd ((mi_lt (a := 24) (b := n) (by omega) (by omega)).mpr (by omega)) h7
    | succ f ih =>
      intro n hn h1 hT
      cases hx : ca_tb g s0 n with
      | none =>
        rw [ca_beh_N hx] at hT
        refine mg_iload_n K md_S_cameBehind_4 rfl ?_
        refine mg_bipush K (v := 24) md_S_cameBehind_5 (by decide) ?_
        refine mg_icmp_gt K 42 md_S_cameBehind_7 rfl (fun h7 => ?_) (fun h7 => ?_)
        · exact absurd ((mi_lt (a := 24) (b := n) (by omega) (by omega)).mp h7) (by omega)
        · refine mg_aload_n K md_S_cameBehind_10 rfl ?_
          refine mg_iload_n K md_S_cameBehind_11 rfl ?_
          refine mr_cV K hA (ct_S_get hty g q hs h1 (by omega)) ms_S_36 (by decide) md_S_cameBehind_12 rfl rfl hs rfl (by decide) ⟨Nat.le_refl _, Nat.le_refl _⟩ ?_
          rw [ca_tv_n hx]
          refine mg_astore K md_S_cameBehind_15 (by decide) ?_
          refine mg_aload K md_S_cameBehind_17 rfl ?_
          refine mr_cS K hA (ct_S_isHere hty g q none (fun j h => by cases h)) ms_S_25 (by decide) md_S_cameBehind_19 rfl (by decide) ⟨Nat.le_refl _, Nat.le_refl _⟩ ?_
          refine mg_if_eq K 36 md_S_cameBehind_22 rfl (fun h22 => ?_) (fun h22 => ?_)
          · refine mg_iinc K (v := Int32.ofNat (n + 1)) md_S_cameBehind_36 rfl (mi_a1 n) (by decide) ?_
            refine mg_goto K 4 md_S_cameBehind_39 rfl ?_
            refine mg_take 4 ?_
            exact ih (n + 1) (by omega) (by omega) hT
          · exact absurd rfl h22
      | some j =>
        have hj := hok n j hx
        rw [ca_beh_S hx] at hT
        refine mg_iload_n K md_S_cameBehind_4 rfl ?_
        refine mg_bipush K (v := 24) md_S_cameBehind_5 (by decide) ?_
        refine mg_icmp_gt K 42 md_S_cameBehind_7 rfl (fun h7 => ?_) (fun h7 => ?_)
        · exact absurd ((mi_lt (a := 24) (b := n) (by omega) (by omega)).mp h7) (by omega)
        · refine mg_aload_n K md_S_cameBehind_10 rfl ?_
          refine mg_iload_n K md_S_cameBehind_11 rfl ?_
          refine mr_cV K hA (ct_S_get hty g q hs h1 (by omega)) ms_S_36 (by decide) md_S_cameBehind_12 rfl rfl hs rfl (by decide) ⟨Nat.le_refl _, Nat.le_refl _⟩ ?_
          rw [ca_tv_s hx, mr_as]
          refine mg_astore K md_S_cameBehind_15 (by decide) ?_
          refine mg_aload K md_S_cameBehind_17 rfl ?_
          refine mr_cS K hA (ct_S_isHere hty g q (some j) (fun i h => by cases h; exact hj)) ms_S_25 (by decide) md_S_cameBehind_19 rfl (by decide) ⟨Nat.le_refl _, Nat.le_refl _⟩ ?_
          refine mg_if_eq K 36 md_S_cameBehind_22 rfl (fun h22 => ?_) (fun h22 => ?_)
          · have hg : ca_here g (some j) = false := by cases hh : ca_here g (some j) with | true => rw [hh] at h22; exact absurd h22 (by decide) | false => rfl
            rw [show decide (¬ ca_iv g 10 j 4 = 6) = false from hg, Bool.false_and, Bool.false_or] at hT
            refine mg_iinc K (v := Int32.ofNat (n + 1)) md_S_cameBehind_36 rfl (mi_a1 n) (by decide) ?_
            refine mg_goto K 4 md_S_cameBehind_39 rfl ?_
            refine mg_take 4 ?_
            exact ih (n + 1) (by omega) (by omega) hT
          · have hg : ca_here g (some j) = true := by cases hh : ca_here g (some j) with | true => rfl | false => rw [hh] at h22; exact absurd rfl h22
            refine mg_aload K md_S_cameBehind_25 rfl ?_
            refine mr_getI (v := ca_iv g 10 j 6) K mf_S_40 md_S_cameBehind_27 (by decide) hj rfl ?_
            refine mg_iload_n K md_S_cameBehind_30 rfl ?_
            refine mg_icmp_ge K 36 md_S_cameBehind_31 rfl (fun h31 => ?_) (fun h31 => ?_)
            · rw [show decide (ca_iv g 10 j 6 < b) = false from decide_eq_false (Int32.not_lt.mpr h31), Bool.and_false, Bool.false_or] at hT
              refine mg_iinc K (v := Int32.ofNat (n + 1)) md_S_cameBehind_36 rfl (mi_a1 n) (by decide) ?_
              refine mg_goto K 4 md_S_cameBehind_39 rfl ?_
              refine mg_take 4 ?_
              exact ih (n + 1) (by omega) (by omega) hT
            · rw [show decide (ca_iv g 10 j 6 < b) = true from decide_eq_true (Int32.not_le.mp h31), show decide (¬ ca_iv g 10 j 4 = 6) = true from hg, Bool.true_and, Bool.true_or] at hT
              refine mg_iconst K (v := 1) md_S_cameBehind_34 (by decide) ?_
              exact mg_zret K hret hlk md_S_cameBehind_35 (by decide) (Nat.le_refl _) (Nat.le_refl _) ⟨by rw [← hT]; rfl, rfl, rfl⟩
  refine mg_iload_n K md_S_cameBehind_0 rfl ?_
  refine mg_iconst K (v := 1) md_S_cameBehind_1 (by decide) ?_
  refine mg_iadd K md_S_cameBehind_2 ?_
  rw [mi_a1]
  refine mg_istore_n K md_S_cameBehind_3 (by decide) ?_
  exact loop (24 - n0) (n0 + 1) (by omega) (by omega) rfl
theorem ct_S_withStatus (hty : tys.map (·.2) = ma_ty) (g : ca_S) (q : mr_St) {s0 : Nat} {b : Int32} (hs : s0 < 4) (hok : ∀ n j, ca_tb g s0 n = some j → j < ca_nm g) : mr_M l my_S_withStatus mc_S_withStatus 5 (some .int) 3 D mn_cl Z mb_B tys ma_sh [va_rf (some (ad 4 s0)), .int b] ad (ma_R g q) (some (.int (Int32.ofNat (ca_cnt g s0 b 1 24 0)))) (ma_R g q) := by
  refine mg_M.of (cc := mc_S_withStatus) (maxL := 5) (ret := (some .int)) (by decide) rfl (Nat.le_of_ble_eq_true rfl) (mg_caS rfl (mg_caS rfl mg_ca0)) ?_
  intro p e s m args below meth c K hret hlk hnm hA
  have loop : ∀ (f n a : Nat), n + f = 25 → 1 ≤ n → ca_cnt g s0 b n f a = (ca_cnt g s0 b 1 24 0) → mg_G p l e (mg_rm 3 0 0) s m args below meth c D mn_cl Z (mg_A ad (mr_C tys ma_sh ad (ma_R g q)) s.heap.size) s.heap 5 (MQ below (mg_Qc D mn_cl Z ad (mr_C tys ma_sh ad (ma_R g q)) s.heap.size (mg_Po tys ma_sh ad (some (.int (Int32.ofNat (ca_cnt g s0 b 1 24 0)))) (ma_R g q))) args s 0 0 (mg_A ad (mr_C tys ma_sh ad (ma_R g q)) s.heap.size)) ad (mr_C tys ma_sh ad (ma_R g q)) [some (va_rf (some (ad 4 s0))), some (.int b), some (.int (Int32.ofNat a)), some (.int (Int32.ofNat n))] 0 0 [] 4 := by
    intro f
    induction f with
    | zero =>
      intro n a hn h1 hT
      refine mg_iload_n K md_S_withStatus_4 rfl ?_
      refine mg_bipush K (v := 24) md_S_withStatus_5 (by decide) ?_
      refine mg_icmp_gt K 40 md_S_withStatus_7 rfl (fun h7 => ?_) (fun h7 => ?_)
      · refine mg_iload_n K md_S_withStatus_40 rfl ?_
        exact mg_iret K hret hlk md_S_withStatus_41 (Nat.le_refl _) (Nat.le_refl _) ⟨by rw [← hT]; rfl, rfl, rfl⟩
      · exact absurd ((mi_lt (a := 24) (b := n) (by omega) (by omega)).mpr (by omega)) h7
    | succ f ih =>
      intro n a hn h1 hT
      cases hx : ca_tb g s0 n with
      | none =>
        rw [ca_cnt_N hx] at hT
        refine mg_iload_n K md_S_withStatus_4 rfl ?_
        refine mg_bipush K (v := 24) md_S_withStatus_5 (by decide) ?_
        refine mg_icmp_gt K 40 md_S_withStatus_7 rfl (fun h7 => ?_) (fun h7 => ?_)
        · exact absurd ((mi_lt (a := 24) (b := n) (by omega) (by omega)).mp h7) (by omega)
        · refine mg_aload_n K md_S_withStatus_10 rfl ?_
          refine mg_iload_n K md_S_withStatus_11 rfl ?_
          refine mr_cV K hA (ct_S_get hty g q hs h1 (by omega)) ms_S_36 (by decide) md_S_withStatus_12 rfl rfl hs rfl (by decide) ⟨Nat.le_refl _, Nat.le_refl _⟩ ?_
          rw [ca_tv_n hx]
          refine mg_astore K md_S_withStatus_15 (by decide) ?_
          refine mg_aload K md_S_withStatus_17 rfl ?_
          refine mg_ifnull K 34 md_S_withStatus_19 rfl (fun h19 => ?_) (fun h19 => ?_)
          · refine mg_iinc K (v := Int32.ofNat (n + 1)) md_S_withStatus_34 rfl (mi_a1 n) (by decide) ?_
            refine mg_goto K 4 md_S_withStatus_37 rfl ?_
            refine mg_take 4 ?_
            exact ih (n + 1) a (by omega) (by omega) hT
          · exact absurd rfl h19
      | some j =>
        have hj := hok n j hx
        rw [ca_cnt_S hx] at hT
        refine mg_iload_n K md_S_withStatus_4 rfl ?_
        refine mg_bipush K (v := 24) md_S_withStatus_5 (by decide) ?_
        refine mg_icmp_gt K 40 md_S_withStatus_7 rfl (fun h7 => ?_) (fun h7 => ?_)
        · exact absurd ((mi_lt (a := 24) (b := n) (by omega) (by omega)).mp h7) (by omega)
        · refine mg_aload_n K md_S_withStatus_10 rfl ?_
          refine mg_iload_n K md_S_withStatus_11 rfl ?_
          refine mr_cV K hA (ct_S_get hty g q hs h1 (by omega)) ms_S_36 (by decide) md_S_withStatus_12 rfl rfl hs rfl (by decide) ⟨Nat.le_refl _, Nat.le_refl _⟩ ?_
          rw [ca_tv_s hx, mr_as]
          refine mg_astore K md_S_withStatus_15 (by decide) ?_
          refine mg_aload K md_S_withStatus_17 rfl ?_
          refine mg_ifnull K 34 md_S_withStatus_19 rfl (fun h19 => ?_) (fun h19 => ?_)
          · exact absurd h19 (fun z => by cases z)
          · refine mg_aload K md_S_withStatus_22 rfl ?_
            refine mr_getI (v := ca_iv g 10 j 4) K mf_S_29 md_S_withStatus_24 (by decide) hj rfl ?_
            refine mg_iload_n K md_S_withStatus_27 rfl ?_
            refine mg_icmp_ne K 34 md_S_withStatus_28 rfl (fun h28 => ?_) (fun h28 => ?_)
            · rw [if_neg h28] at hT
              refine mg_iinc K (v := Int32.ofNat (n + 1)) md_S_withStatus_34 rfl (mi_a1 n) (by decide) ?_
              refine mg_goto K 4 md_S_withStatus_37 rfl ?_
              refine mg_take 4 ?_
              exact ih (n + 1) a (by omega) (by omega) hT
            · rw [if_pos h28] at hT
              refine mg_iinc K (v := Int32.ofNat (a + 1)) md_S_withStatus_31 rfl (mi_a1 a) (by decide) ?_
              refine mg_iinc K (v := Int32.ofNat (n + 1)) md_S_withStatus_34 rfl (mi_a1 n) (by decide) ?_
              refine mg_goto K 4 md_S_withStatus_37 rfl ?_
              refine mg_take 4 ?_
              exact ih (n + 1) (a + 1) (by omega) (by omega) hT
  refine mg_iconst K (v := 0) md_S_withStatus_0 (by decide) ?_
  refine mg_istore_n K md_S_withStatus_1 (by decide) ?_
  refine mg_iconst K (v := 1) md_S_withStatus_2 (by decide) ?_
  refine mg_istore_n K md_S_withStatus_3 (by decide) ?_
  exact loop 24 1 0 (by omega) (by omega) rfl
theorem ct_S_loseHeld (hty : tys.map (·.2) = ma_ty) (g : ca_S) (q : mr_St) {s0 : Nat} (hs : s0 < 4) (hok : ∀ n j, ca_tb g s0 n = some j → j < ca_nm g) : mr_M l my_S_loseHeld mc_S_loseHeld 4 (some .int) 3 D mn_cl Z mb_B tys ma_sh [va_rf (some (ad 4 s0))] ad (ma_R g q) (some (.int (Int32.ofNat (ca_lose s0 1 24 g 0).2))) (ma_R (ca_lose s0 1 24 g 0).1 q) := by
  refine mg_M.of (cc := mc_S_loseHeld) (maxL := 4) (ret := (some .int)) (by decide) rfl (Nat.le_of_ble_eq_true rfl) (mg_caS rfl mg_ca0) ?_
  intro p e s m args below meth c K hret hlk hnm hA
  have loop : ∀ (f n : Nat) (g' : ca_S) (a : Nat), n + f = 25 → 1 ≤ n → ca_tb g' = ca_tb g → ca_nm g' = ca_nm g → ca_lose s0 n f g' a = (ca_lose s0 1 24 g 0) → mg_G p l e (mg_rm 3 0 0) s m args below meth c D mn_cl Z (mg_A ad (mr_C tys ma_sh ad (ma_R g q)) s.heap.size) s.heap 4 (MQ below (mg_Qc D mn_cl Z ad (mr_C tys ma_sh ad (ma_R g q)) s.heap.size (mg_Po tys ma_sh ad (some (.int (Int32.ofNat (ca_lose s0 1 24 g 0).2))) (ma_R (ca_lose s0 1 24 g 0).1 q))) args s 0 0 (mg_A ad (mr_C tys ma_sh ad (ma_R g q)) s.heap.size)) ad (mr_C tys ma_sh ad (ma_R g' q)) [some (va_rf (some (ad 4 s0))), some (.int (Int32.ofNat a)), some (.int (Int32.ofNat n))] 0 0 [] 4 := by
    intro f
    induction f with
    | zero =>
      intro n g' a hn h1 htb hnm2 hT
      refine mg_iload_n K md_S_loseHeld_4 rfl ?_
      refine mg_bipush K (v := 24) md_S_loseHeld_5 (by decide) ?_
      refine mg_icmp_gt K 42 md_S_loseHeld_7 rfl (fun h7 => ?_) (fun h7 => ?_)
      · refine mg_iload_n K md_S_loseHeld_42 rfl ?_
        exact mg_iret K hret hlk md_S_loseHeld_43 (Nat.le_refl _) (Nat.le_refl _) ⟨by rw [← hT]; rfl, rfl, by rw [← hT]; rfl⟩
      · exact absurd ((mi_lt (a := 24) (b := n) (by omega) (by omega)).mpr (by omega)) h7
    | succ f ih =>
      intro n g' a hn h1 htb hnm2 hT
      cases hx : ca_tb g' s0 n with
      | none =>
        rw [ca_lose_N hx] at hT
        refine mg_iload_n K md_S_loseHeld_4 rfl ?_
        refine mg_bipush K (v := 24) md_S_loseHeld_5 (by decide) ?_
        refine mg_icmp_gt K 42 md_S_loseHeld_7 rfl (fun h7 => ?_) (fun h7 => ?_)
        · exact absurd ((mi_lt (a := 24) (b := n) (by omega) (by omega)).mp h7) (by omega)
        · refine mg_aload_n K md_S_loseHeld_10 rfl ?_
          refine mg_iload_n K md_S_loseHeld_11 rfl ?_
          refine mr_cV K hA (ct_S_get hty g' q hs h1 (by omega)) ms_S_36 (by decide) md_S_loseHeld_12 rfl rfl hs rfl (by decide) ⟨Nat.le_refl _, Nat.le_refl _⟩ ?_
          rw [ca_tv_n hx]
          refine mg_astore_n K md_S_loseHeld_15 (by decide) ?_
          refine mg_aload_n K md_S_loseHeld_16 rfl ?_
          refine mg_ifnull K 36 md_S_loseHeld_17 rfl (fun h17 => ?_) (fun h17 => ?_)
          · refine mg_iinc K (v := Int32.ofNat (n + 1)) md_S_loseHeld_36 rfl (mi_a1 n) (by decide) ?_
            refine mg_goto K 4 md_S_loseHeld_39 rfl ?_
            refine mg_take 3 ?_
            exact ih (n + 1) g' a (by omega) (by omega) htb hnm2 hT
          · exact absurd rfl h17
      | some j =>
        have hj : j < ca_nm g' := by rw [hnm2]; exact hok n j (by rw [← htb]; exact hx)
        rw [ca_lose_S hx] at hT
        refine mg_iload_n K md_S_loseHeld_4 rfl ?_
        refine mg_bipush K (v := 24) md_S_loseHeld_5 (by decide) ?_
        refine mg_icmp_gt K 42 md_S_loseHeld_7 rfl (fun h7 => ?_) (fun h7 => ?_)
        · exact absurd ((mi_lt (a := 24) (b := n) (by omega) (by omega)).mp h7) (by omega)
        · refine mg_aload_n K md_S_loseHeld_10 rfl ?_
          refine mg_iload_n K md_S_loseHeld_11 rfl ?_
          refine mr_cV K hA (ct_S_get hty g' q hs h1 (by omega)) ms_S_36 (by decide) md_S_loseHeld_12 rfl rfl hs rfl (by decide) ⟨Nat.le_refl _, Nat.le_refl _⟩ ?_
          rw [ca_tv_s hx, mr_as]
          refine mg_astore_n K md_S_loseHeld_15 (by decide) ?_
          refine mg_aload_n K md_S_loseHeld_16 rfl ?_
          refine mg_ifnull K 36 md_S_loseHeld_17 rfl (fun h17 => ?_) (fun h17 => ?_)
          · exact absurd h17 (fun z => by cases z)
          · refine mg_aload_n K md_S_loseHeld_20 rfl ?_
            refine mr_getI (v := ca_iv g' 10 j 4) K mf_S_29 md_S_loseHeld_21 (by decide) hj rfl ?_
            refine mg_if_ne K 36 md_S_loseHeld_24 rfl (fun h24 => ?_) (fun h24 => ?_)
            · rw [if_neg h24] at hT
              refine mg_iinc K (v := Int32.ofNat (n + 1)) md_S_loseHeld_36 rfl (mi_a1 n) (by decide) ?_
              refine mg_goto K 4 md_S_loseHeld_39 rfl ?_
              refine mg_take 3 ?_
              exact ih (n + 1) g' a (by omega) (by omega) htb hnm2 hT
            · rw [if_pos h24] at hT
              refine mg_aload_n K md_S_loseHeld_27 rfl ?_
              refine mg_bipush K (v := 6) md_S_loseHeld_28 (by decide) ?_
              refine mr_putI K mf_S_29 md_S_loseHeld_30 hj ?_
              refine mr_eqr (ma_sI g' q 10 j 4 6 (by decide) (by decide)) ?_
              refine mg_iinc K (v := Int32.ofNat (a + 1)) md_S_loseHeld_33 rfl (mi_a1 a) (by decide) ?_
              refine mg_iinc K (v := Int32.ofNat (n + 1)) md_S_loseHeld_36 rfl (mi_a1 n) (by decide) ?_
              refine mg_goto K 4 md_S_loseHeld_39 rfl ?_
              refine mg_take 3 ?_
              exact ih (n + 1) (ca_si g' 10 j 4 6) (a + 1) (by omega) (by omega) htb hnm2 hT
  refine mg_iconst K (v := 0) md_S_loseHeld_0 (by decide) ?_
  refine mg_istore_n K md_S_loseHeld_1 (by decide) ?_
  refine mg_iconst K (v := 1) md_S_loseHeld_2 (by decide) ?_
  refine mg_istore_n K md_S_loseHeld_3 (by decide) ?_
  exact loop 24 1 g 0 (by omega) (by omega) rfl rfl rfl
end CS2
