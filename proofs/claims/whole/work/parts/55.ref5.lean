/-! the reference: takes, releases, comes -/
theorem rb_gap_le (h : rb_S) (s : Nat) : rb_gap h s ≤ 25 := by
  have key : ∀ f n, rb_gapF h s n f ≤ n + f := by
    intro f
    induction f with
    | zero => intro n; exact Nat.le_refl _
    | succ f ih =>
      intro n
      show (if rb_here h (24 * s + n - 1) = true ∨ ¬ h 25 (24 * s + n - 1) = 0 then rb_gapF h s (n + 1) f else n) ≤ n + (f + 1)
      split
      · have := ih (n + 1); omega
      · omega
  exact key 24 1
def rb_relF (s : Nat) : Nat → Nat → rb_S → rb_S
  | _, 0, h => h
  | n, f + 1, h => rb_relF s (n + 1) f (if ¬ h 24 (24 * s + n - 1) = 0 ∧ h 29 (24 * s + n - 1) = 0 ∧ n < rb_gap h s then rb_takes h (24 * s + n - 1) else h)
def rb_rel (h : rb_S) (s : Nat) : rb_S := rb_relF s 1 24 h
theorem rb_relF_ok (s : Nat) (hs : s < 4) : ∀ (f n : Nat) {h : rb_S}, n + f = 25 → 1 ≤ n → rb_ok h → rb_ok (rb_relF s n f h)
  | 0, n, h, _, _, ho => ho
  | f + 1, n, h, hn, h1, ho => by
    refine rb_relF_ok s hs f (n + 1) (by omega) (by omega) ?_
    split
    · next hz => exact rb_takes_ok ho (by omega) hz.1 (by rw [hz.2.1]; decide) (by rw [hz.2.1]; decide)
    · exact ho
theorem rb_rel_ok {h : rb_S} (ho : rb_ok h) {s : Nat} (hs : s < 4) : rb_ok (rb_rel h s) := rb_relF_ok s hs 24 1 (by omega) (by omega) ho
def rb_put (h : rb_S) (m : Nat) : rb_S := mg_u (mg_u (mg_u (mg_u (mg_u h 24 m 1) 29 m 0) 30 m 0) 31 m (h 20 1)) 33 m 0
theorem rb_put_ok {h : rb_S} (ho : rb_ok h) {m : Nat} (hm : m < 96) (hh : rb_here h m = false) : rb_ok (rb_put h m) := by
  have e24 : ∀ x, rb_put h m 24 x = if x = m then 1 else h 24 x := fun x => by
    show mg_u h 24 m 1 24 x = _
    by_cases hx : x = m
    · subst hx; rw [mg_u_s, if_pos rfl]
    · rw [mg_u_n _ _ _ _ (fun z => hx z.2), if_neg hx]
  have e29 : ∀ x, rb_put h m 29 x = if x = m then 0 else h 29 x := fun x => by
    show mg_u (mg_u h 24 m 1) 29 m 0 29 x = _
    by_cases hx : x = m
    · subst hx; rw [mg_u_s, if_pos rfl]
    · rw [mg_u_n _ _ _ _ (fun z => hx z.2), if_neg hx]; rfl
  have key : ∀ w : Int32, ¬ w = 0 → ¬ w = 6 → cp (rb_q (rb_put h m) w) = cp (rb_q h w) := fun w h0 h6 => by
    refine cp_cg (fun x _ => ?_)
    unfold rb_q
    rw [e24, e29]
    by_cases hx : x = m
    · rw [if_pos hx, if_pos hx, hx]
      have a : ¬ (¬ (1 : Int32) = 0 ∧ 0 = w) := fun z => h0 z.2.symm
      have b : ¬ (¬ h 24 m = 0 ∧ h 29 m = w) := fun z => by
        have : rb_here h m = true := by
          unfold rb_here
          rw [decide_eq_true z.1, decide_eq_true (p := ¬ h 29 m = 6) (fun y => h6 (z.2.symm.trans y))]
          rfl
        rw [hh] at this
        cases this
      rw [decide_eq_false a, decide_eq_false b]
    · rw [if_neg hx, if_neg hx]
  refine ⟨ho.1.cg (fun x => ⟨rfl, rfl⟩), ?_, ?_, ?_, ?_⟩
  · rw [key 1 (by decide) (by decide)]; exact ho.2.1
  · rw [key 5 (by decide) (by decide)]; exact ho.2.2.1
  · rw [key 1 (by decide) (by decide)]; exact ho.2.2.2.1
  · rw [key 5 (by decide) (by decide)]; exact ho.2.2.2.2
theorem rb_put_24 (h : rb_S) (m : Nat) : rb_put h m 24 m = 1 := mg_u_s h 24 m 1
theorem rb_put_29 (h : rb_S) (m : Nat) : rb_put h m 29 m = 0 := mg_u_s (mg_u h 24 m 1) 29 m 0
def rb_comes (h : rb_S) (m : Nat) : rb_S × Int32 := if ¬ h 26 m = 3 ∧ rb_gap (rb_put h m) (m / 24) < m % 24 + 1 then (rb_put h m, 2) else (rb_rel (rb_takes (rb_put h m) m) (m / 24), (rb_dec (rb_put h m) m).2)
theorem rb_put_t {h : rb_S} (ho : rb_ok h) {m : Nat} (hm : m < 96) (hh : rb_here h m = false) : rb_ok (rb_takes (rb_put h m) m) :=
  rb_takes_ok (rb_put_ok ho hm hh) hm (by rw [rb_put_24]; decide) (by rw [rb_put_29]; decide) (by rw [rb_put_29]; decide)
theorem rb_comes_c (h : rb_S) (m : Nat) : (rb_comes h m = (rb_put h m, 2) ∧ ¬ h 26 m = 3 ∧ rb_gap (rb_put h m) (m / 24) < m % 24 + 1) ∨ (rb_comes h m = (rb_rel (rb_takes (rb_put h m) m) (m / 24), (rb_dec (rb_put h m) m).2) ∧ ¬ (¬ h 26 m = 3 ∧ rb_gap (rb_put h m) (m / 24) < m % 24 + 1)) := by
  by_cases hq : ¬ h 26 m = 3 ∧ rb_gap (rb_put h m) (m / 24) < m % 24 + 1
  · exact Or.inl ⟨if_pos hq, hq⟩
  · exact Or.inr ⟨if_neg hq, hq⟩
theorem rb_comes_ok {h : rb_S} (ho : rb_ok h) {m : Nat} (hm : m < 96) (hh : rb_here h m = false) : rb_ok (rb_comes h m).1 := by
  rcases rb_comes_c h m with ⟨e, -⟩ | ⟨e, -⟩
  · rw [e]; exact rb_put_ok ho hm hh
  · have hd : m / 24 < 4 := by omega
    have hk := rb_rel_ok (h := rb_takes (rb_put h m) m) (s := m / 24) (rb_put_t ho hm hh) hd
    simp only [e]
    exact hk
theorem rb_comes_lt (h : rb_S) (m : Nat) : ¬ 6 ≤ (rb_comes h m).2 := by
  rcases rb_comes_c h m with ⟨e, -⟩ | ⟨e, -⟩
  · rw [e]
    show ¬ (6 : Int32) ≤ 2
    decide
  · rw [e]
    have := rb_dec_lt (rb_put h m) m
    exact this
section RB5
variable {l : Launch} {D : va_G} {Z : Nat × Cell} {tys : List (ClassId × FieldType)} {ad : mg_Ad}
theorem ct_B_takes (hty : tys.map (·.2) = ma_ty) (g : ca_S) (h : rb_S) (o : Int64) {m0 : Nat} (hm : m0 < 96) (ho : rb_ok h) (hc : ¬ h 24 m0 = 0) (h1 : ¬ h 29 m0 = 1) (h5 : ¬ h 29 m0 = 5) : mr_M l my_B_takes mc_B_takes 7 (some .int) 4 D mn_cl Z mb_B tys ma_sh [va_rf (some (ad 20 0)), .int (Int32.ofNat m0)] ad (ma_R g (rb_R h o)) (some (.int (rb_dec h m0).2)) (ma_R g (rb_R (rb_takes h m0) o)) := by
  have hr0 := ho.1 m0 hm
  have hsu := hr0.1.1
  have hu := hr0.1.2
  have hfu := hr0.2.1
  have hf5 := hr0.2.2
  obtain ⟨l1, l5⟩ := ho.cnt hm h1 h5
  refine mg_M.of (cc := mc_B_takes) (maxL := 7) (ret := (some .int)) (by decide) rfl (Nat.le_of_ble_eq_true rfl) (mg_caS rfl (mg_caS rfl mg_ca0)) ?_
  intro p e s m args below meth c K hret hlk hnm hA
  have loop : ∀ (f : Nat) (h' : rb_S), rb_ok h' → ¬ h' 21 (rb_sub h m0) = 0 → cp (rb_q h' 3) ≤ f → rb_wake (rb_sub h m0) (f + 1) h' = rb_takes h m0 → mg_G p l e (mg_rm 4 0 0) s m args below meth c D mn_cl Z (mg_A ad (mr_C tys ma_sh ad (ma_R g (rb_R h o))) s.heap.size) s.heap 7 (MQ below (mg_Qc D mn_cl Z ad (mr_C tys ma_sh ad (ma_R g (rb_R h o))) s.heap.size (mg_Po tys ma_sh ad (some (.int (rb_dec h m0).2)) (ma_R g (rb_R (rb_takes h m0) o)))) args s 0 0 (mg_A ad (mr_C tys ma_sh ad (ma_R g (rb_R h o))) s.heap.size)) ad (mr_C tys ma_sh ad (ma_R g (rb_R h' o))) [some (va_rf (some (ad 20 0))), some (.int (Int32.ofNat m0)), some (.int (Int32.ofNat (rb_sub h m0))), some (.int 1), some (.int (rb_dec h m0).2), some (.int (rb_on (rb_first h' 3 (Int32.ofNat (rb_sub h m0)) (h' 20 16))))] 0 0 [] 54 := by
    intro f
    induction f with
    | zero =>
      intro h' ho' hk hz hT
      have e : (rb_first h' 3 (Int32.ofNat (rb_sub h m0)) (h' 20 16)) = none := rb_first_0 (Nat.le_zero.mp hz)
      rw [e]
      rw [rb_wake_N e] at hT
      rw [show rb_on none = -1 from rfl]
      refine mg_iload K md_B_takes_54 rfl ?_
      refine mg_if_lt K 93 md_B_takes_56 rfl (fun h56 => ?_) (fun h56 => ?_)
      · refine mg_iload K md_B_takes_93 rfl ?_
        exact mg_iret K hret hlk md_B_takes_95 (Nat.le_refl _) (Nat.le_refl _) ⟨rfl, rfl, by rw [hT]⟩
      · exact absurd (by decide) h56
    | succ f ih =>
      intro h' ho' hk hz hT
      cases e : (rb_first h' 3 (Int32.ofNat (rb_sub h m0)) (h' 20 16)) with
      | none =>
        rw [rb_wake_N e] at hT
        rw [show rb_on none = -1 from rfl]
        refine mg_iload K md_B_takes_54 rfl ?_
        refine mg_if_lt K 93 md_B_takes_56 rfl (fun h56 => ?_) (fun h56 => ?_)
        · refine mg_iload K md_B_takes_93 rfl ?_
          exact mg_iret K hret hlk md_B_takes_95 (Nat.le_refl _) (Nat.le_refl _) ⟨rfl, rfl, by rw [hT]⟩
        · exact absurd (by decide) h56
      | some j =>
        rw [rb_wake_S e] at hT
        rw [show rb_on (some j) = Int32.ofNat j from rfl]
        obtain ⟨g1, g2, g3, g4, g5, g6, g7⟩ := rb_woken ho' e rfl hu hk
        obtain ⟨k1, k5⟩ := ho'.cnt g1 (by rw [g3]; decide) (by rw [g3]; decide)
        refine mg_iload K md_B_takes_54 rfl ?_
        refine mg_if_lt K 93 md_B_takes_56 rfl (fun h56 => ?_) (fun h56 => ?_)
        · exact absurd h56 (mi_nn (by omega))
        · refine mg_aload_n K md_B_takes_59 rfl ?_
          refine mg_iload K md_B_takes_60 rfl ?_
          refine mr_cV K hA (ct_B_decides hty g h' o g1 ho'.1 ho'.2.1 k1 ho'.2.2.1 k5) ms_B_102 (by decide) md_B_takes_62 rfl rfl Nat.zero_lt_one rfl (Nat.le_of_ble_eq_true rfl) ⟨Nat.zero_le _, Nat.zero_le _⟩ ?_
          refine mg_istore K md_B_takes_65 (by decide) ?_
          refine mg_iload K md_B_takes_67 rfl ?_
          refine mg_bipush K (v := 6) md_B_takes_69 (by decide) ?_
          refine mg_icmp_ge K 87 md_B_takes_71 rfl (fun h71 => ?_) (fun h71 => ?_)
          · exact absurd h71 (rb_dec_lt h' j)
          · refine mg_aload_n K md_B_takes_74 rfl ?_
            refine mg_iconst K (v := 3) md_B_takes_75 (by decide) ?_
            refine mg_iload_n K md_B_takes_76 rfl ?_
            refine mg_aload_n K md_B_takes_77 rfl ?_
            refine mr_getI (v := (rb_dec h' j).1 20 16) K mf_B_93 md_B_takes_78 (by decide) Nat.zero_lt_one rfl ?_
            refine mr_cV K hA (ct_B_first hty g (rb_dec h' j).1 o 3 (Int32.ofNat (rb_sub h m0)) ((rb_dec h' j).1 20 16)) ms_B_105 (by decide) md_B_takes_81 rfl rfl Nat.zero_lt_one rfl (Nat.le_of_ble_eq_true rfl) ⟨Nat.zero_le _, Nat.zero_le _⟩ ?_
            refine mg_goto K 88 md_B_takes_84 rfl ?_
            refine mg_istore K md_B_takes_88 (by decide) ?_
            refine mg_goto K 54 md_B_takes_90 rfl ?_
            refine mg_take 6 ?_
            exact ih (rb_dec h' j).1 g5 g6 (by omega) hT
  refine mg_aload_n K md_B_takes_0 rfl ?_
  refine mr_getS (k2 := 27) (i2 := 0) K mf_B_29 md_B_takes_1 Nat.zero_lt_one rfl ?_
  refine mg_iload_n K md_B_takes_4 rfl ?_
  refine mr_iald (v := Int32.ofNat (rb_sub h m0)) K rfl (ma_t hty 4) md_B_takes_5 Nat.zero_lt_one (mi_vn (by omega) (by omega)) (by rw [mi_tn (by omega)]; exact hsu) ?_
  refine mg_istore_n K md_B_takes_6 (by decide) ?_
  refine mg_aload_n K md_B_takes_7 rfl ?_
  refine mr_getS (k2 := 21) (i2 := 0) K mf_B_7 md_B_takes_8 Nat.zero_lt_one rfl ?_
  refine mg_iload_n K md_B_takes_11 rfl ?_
  refine mr_iald (v := h 21 (rb_sub h m0)) K rfl (ma_t hty 4) md_B_takes_12 Nat.zero_lt_one (mi_vn (by omega) (by omega)) (by rw [mi_tn (by omega)]; rfl) ?_
  refine mg_if_ne K 20 md_B_takes_13 rfl (fun h13 => ?_) (fun h13 => ?_)
  · refine mg_iconst K (v := 0) md_B_takes_20 (by decide) ?_
    refine mg_istore_n K md_B_takes_21 (by decide) ?_
    refine mg_aload_n K md_B_takes_22 rfl ?_
    refine mg_iload_n K md_B_takes_23 rfl ?_
    refine mr_cV K hA (ct_B_decides hty g h o hm ho.1 ho.2.1 l1 ho.2.2.1 l5) ms_B_102 (by decide) md_B_takes_24 rfl rfl Nat.zero_lt_one rfl (Nat.le_of_ble_eq_true rfl) ⟨Nat.zero_le _, Nat.zero_le _⟩ ?_
    refine mg_istore K md_B_takes_27 (by decide) ?_
    refine mg_iload_n K md_B_takes_29 rfl ?_
    refine mg_if_eq K 93 md_B_takes_30 rfl (fun h30 => ?_) (fun h30 => ?_)
    · refine mg_iload K md_B_takes_93 rfl ?_
      exact mg_iret K hret hlk md_B_takes_95 (Nat.le_refl _) (Nat.le_refl _) ⟨rfl, rfl, by unfold rb_takes; rw [if_neg (fun z => h13 z.1)]⟩
    · exact absurd rfl h30
  · refine mg_iconst K (v := 1) md_B_takes_16 (by decide) ?_
    refine mg_goto K 21 md_B_takes_17 rfl ?_
    refine mg_istore_n K md_B_takes_21 (by decide) ?_
    refine mg_aload_n K md_B_takes_22 rfl ?_
    refine mg_iload_n K md_B_takes_23 rfl ?_
    refine mr_cV K hA (ct_B_decides hty g h o hm ho.1 ho.2.1 l1 ho.2.2.1 l5) ms_B_102 (by decide) md_B_takes_24 rfl rfl Nat.zero_lt_one rfl (Nat.le_of_ble_eq_true rfl) ⟨Nat.zero_le _, Nat.zero_le _⟩ ?_
    refine mg_istore K md_B_takes_27 (by decide) ?_
    refine mg_iload_n K md_B_takes_29 rfl ?_
    refine mg_if_eq K 93 md_B_takes_30 rfl (fun h30 => ?_) (fun h30 => ?_)
    · exact absurd h30 (by decide)
    · refine mg_aload_n K md_B_takes_33 rfl ?_
      refine mr_getS (k2 := 21) (i2 := 0) K mf_B_7 md_B_takes_34 Nat.zero_lt_one rfl ?_
      refine mg_iload_n K md_B_takes_37 rfl ?_
      refine mr_iald (v := (rb_dec h m0).1 21 (rb_sub h m0)) K rfl (ma_t hty 4) md_B_takes_38 Nat.zero_lt_one (mi_vn (by omega) (by omega)) (by rw [mi_tn (by omega)]; rfl) ?_
      refine mg_if_eq K 93 md_B_takes_39 rfl (fun h39 => ?_) (fun h39 => ?_)
      · refine mg_iload K md_B_takes_93 rfl ?_
        exact mg_iret K hret hlk md_B_takes_95 (Nat.le_refl _) (Nat.le_refl _) ⟨rfl, rfl, by unfold rb_takes; rw [if_neg (fun z => z.2 h39)]⟩
      · refine mg_aload_n K md_B_takes_42 rfl ?_
        refine mg_iconst K (v := 3) md_B_takes_43 (by decide) ?_
        refine mg_iload_n K md_B_takes_44 rfl ?_
        refine mg_aload_n K md_B_takes_45 rfl ?_
        refine mr_getI (v := (rb_dec h m0).1 20 16) K mf_B_93 md_B_takes_46 (by decide) Nat.zero_lt_one rfl ?_
        refine mr_cV K hA (ct_B_first hty g (rb_dec h m0).1 o 3 (Int32.ofNat (rb_sub h m0)) ((rb_dec h m0).1 20 16)) ms_B_105 (by decide) md_B_takes_49 rfl rfl Nat.zero_lt_one rfl (Nat.le_of_ble_eq_true rfl) ⟨Nat.zero_le _, Nat.zero_le _⟩ ?_
        refine mg_istore K md_B_takes_52 (by decide) ?_
        exact loop 96 (rb_dec h m0).1 (rb_dec_ok ho hm hc h1 h5) h39 (cp_le _) (if_pos ⟨h13, h39⟩).symm
theorem ct_B_releases (hty : tys.map (·.2) = ma_ty) (g : ca_S) (h : rb_S) (o : Int64) {s0 : Nat} (hs : s0 < 4) (ho : rb_ok h) : mr_M l my_B_releases mc_B_releases 5 none 5 D mn_cl Z mb_B tys ma_sh [va_rf (some (ad 20 0)), .int (Int32.ofNat s0)] ad (ma_R g (rb_R h o)) none (ma_R g (rb_R (rb_rel h s0) o)) := by
  refine mg_M.of (cc := mc_B_releases) (maxL := 5) (ret := none) (by decide) rfl (Nat.le_of_ble_eq_true rfl) (mg_caS rfl (mg_caS rfl mg_ca0)) ?_
  intro p e s m args below meth c K hret hlk hnm hA
  have loop : ∀ (f n : Nat) (h' : rb_S), n + f = 25 → 1 ≤ n → rb_ok h' → rb_relF s0 n f h' = rb_rel h s0 → mg_G p l e (mg_rm 5 0 0) s m args below meth c D mn_cl Z (mg_A ad (mr_C tys ma_sh ad (ma_R g (rb_R h o))) s.heap.size) s.heap 5 (MQ below (mg_Qc D mn_cl Z ad (mr_C tys ma_sh ad (ma_R g (rb_R h o))) s.heap.size (mg_Po tys ma_sh ad none (ma_R g (rb_R (rb_rel h s0) o)))) args s 0 0 (mg_A ad (mr_C tys ma_sh ad (ma_R g (rb_R h o))) s.heap.size)) ad (mr_C tys ma_sh ad (ma_R g (rb_R h' o))) [some (va_rf (some (ad 20 0))), some (.int (Int32.ofNat s0)), some (.int (Int32.ofNat n))] 0 0 [] 2 := by
    intro f
    induction f with
    | zero =>
      intro n h' hn h1 ho' hT
      refine mg_iload_n K md_B_releases_2 rfl ?_
      refine mg_bipush K (v := 24) md_B_releases_3 (by decide) ?_
      refine mg_icmp_gt K 71 md_B_releases_5 rfl (fun h5 => ?_) (fun h5 => ?_)
      · exact mg_vret K hret hlk md_B_releases_71 (Nat.le_refl _) (Nat.le_refl _) ⟨rfl, rfl, by rw [← hT]; rfl⟩
      · exact absurd ((mi_lt (a := 24) (b := n) (by omega) (by omega)).mpr (by omega)) h5
    | succ f ih =>
      intro n h' hn h1 ho' hT
      have hS : rb_relF s0 (n + 1) f (if ¬ h' 24 (24 * s0 + n - 1) = 0 ∧ h' 29 (24 * s0 + n - 1) = 0 ∧ n < rb_gap h' s0 then rb_takes h' (24 * s0 + n - 1) else h') = rb_rel h s0 := hT
      have hgl := rb_gap_le h' s0
      refine mg_iload_n K md_B_releases_2 rfl ?_
      refine mg_bipush K (v := 24) md_B_releases_3 (by decide) ?_
      refine mg_icmp_gt K 71 md_B_releases_5 rfl (fun h5 => ?_) (fun h5 => ?_)
      · exact absurd ((mi_lt (a := 24) (b := n) (by omega) (by omega)).mp h5) (by omega)
      · refine mg_bipush K (v := 24) md_B_releases_8 (by decide) ?_
        refine mg_iload_n K md_B_releases_10 rfl ?_
        refine mg_imul K md_B_releases_11 ?_
        refine mg_iload_n K md_B_releases_12 rfl ?_
        refine mg_iadd K md_B_releases_13 ?_
        refine mg_iconst K (v := 1) md_B_releases_14 (by decide) ?_
        refine mg_isub K md_B_releases_15 ?_
        rw [mi_ix h1]
        refine mg_istore_n K md_B_releases_16 (by decide) ?_
        refine mg_aload_n K md_B_releases_17 rfl ?_
        refine mr_getS (k2 := 24) (i2 := 0) K mf_B_19 md_B_releases_18 Nat.zero_lt_one rfl ?_
        refine mg_iload_n K md_B_releases_21 rfl ?_
        refine mr_zald (v := h' 24 (24 * s0 + n - 1)) K rfl (ma_t hty 2) md_B_releases_22 Nat.zero_lt_one (mi_vn (by omega) (by omega)) (by rw [mi_tn (by omega)]; rfl) ?_
        refine mg_if_eq K 65 md_B_releases_23 rfl (fun h23 => ?_) (fun h23 => ?_)
        · refine mg_iinc K (v := Int32.ofNat (n + 1)) md_B_releases_65 rfl (mi_a1 n) (by decide) ?_
          refine mg_goto K 2 md_B_releases_68 rfl ?_
          refine mg_take 3 ?_
          exact ih (n + 1) h' (by omega) (by omega) ho' (by rw [if_neg (fun z => z.1 h23)] at hS; exact hS)
        · refine mg_aload_n K md_B_releases_26 rfl ?_
          refine mr_getS (k2 := 29) (i2 := 0) K mf_B_35 md_B_releases_27 Nat.zero_lt_one rfl ?_
          refine mg_iload_n K md_B_releases_30 rfl ?_
          refine mr_iald (v := h' 29 (24 * s0 + n - 1)) K rfl (ma_t hty 4) md_B_releases_31 Nat.zero_lt_one (mi_vn (by omega) (by omega)) (by rw [mi_tn (by omega)]; rfl) ?_
          refine mg_if_ne K 65 md_B_releases_32 rfl (fun h32 => ?_) (fun h32 => ?_)
          · refine mg_iinc K (v := Int32.ofNat (n + 1)) md_B_releases_65 rfl (mi_a1 n) (by decide) ?_
            refine mg_goto K 2 md_B_releases_68 rfl ?_
            refine mg_take 3 ?_
            exact ih (n + 1) h' (by omega) (by omega) ho' (by rw [if_neg (fun z => h32 z.2.1)] at hS; exact hS)
          · refine mg_aload_n K md_B_releases_35 rfl ?_
            refine mg_iload_n K md_B_releases_36 rfl ?_
            refine mr_cV K hA (ct_B_gap hty g h' o hs) ms_B_109 (by decide) md_B_releases_37 rfl rfl Nat.zero_lt_one rfl (Nat.le_of_ble_eq_true rfl) ⟨Nat.zero_le _, Nat.zero_le _⟩ ?_
            refine mg_iload_n K md_B_releases_40 rfl ?_
            refine mg_icmp_le K 65 md_B_releases_41 rfl (fun h41 => ?_) (fun h41 => ?_)
            · refine mg_iinc K (v := Int32.ofNat (n + 1)) md_B_releases_65 rfl (mi_a1 n) (by decide) ?_
              refine mg_goto K 2 md_B_releases_68 rfl ?_
              refine mg_take 3 ?_
              exact ih (n + 1) h' (by omega) (by omega) ho' (by rw [if_neg (fun z => absurd ((mi_le (a := rb_gap h' s0) (b := n) (by omega) (by omega)).mp h41) (by omega))] at hS; exact hS)
            · refine mg_aload_n K md_B_releases_44 rfl ?_
              refine mg_iload_n K md_B_releases_45 rfl ?_
              refine mr_cV K hA (ct_B_takes hty g h' o (m0 := (24 * s0 + n - 1)) (by omega) ho' h23 (by rw [h32]; decide) (by rw [h32]; decide)) ms_B_112 (by decide) md_B_releases_46 rfl rfl Nat.zero_lt_one rfl (Nat.le_of_ble_eq_true rfl) ⟨Nat.zero_le _, Nat.zero_le _⟩ ?_
              refine mg_istore K md_B_releases_49 (by decide) ?_
              refine mg_iload K md_B_releases_51 rfl ?_
              refine mg_bipush K (v := 6) md_B_releases_53 (by decide) ?_
              refine mg_icmp_ge K 62 md_B_releases_55 rfl (fun h55 => ?_) (fun h55 => ?_)
              · exact absurd h55 (rb_dec_lt _ _)
              · refine mg_iload_n K md_B_releases_58 rfl ?_
                refine mg_goto K 64 md_B_releases_59 rfl ?_
                refine mg_istore_n K md_B_releases_64 (by decide) ?_
                refine mg_iinc K (v := Int32.ofNat (n + 1)) md_B_releases_65 rfl (mi_a1 n) (by decide) ?_
                refine mg_goto K 2 md_B_releases_68 rfl ?_
                have hng : n < rb_gap h' s0 := by have := mt (mi_le (a := rb_gap h' s0) (b := n) (by omega) (by omega)).mpr h41; omega
                rw [if_pos ⟨h23, h32, hng⟩] at hS
                refine mg_take 3 ?_
                exact ih (n + 1) _ (by omega) (by omega) (rb_takes_ok ho' (by omega) h23 (by rw [h32]; decide) (by rw [h32]; decide)) hS
  refine mg_iconst K (v := 1) md_B_releases_0 (by decide) ?_
  refine mg_istore_n K md_B_releases_1 (by decide) ?_
  exact loop 24 1 h (by omega) (by omega) ho rfl
theorem ct_B_comes (hty : tys.map (·.2) = ma_ty) (g : ca_S) (h : rb_S) (o : Int64) {m0 : Nat} (hm : m0 < 96) (ho : rb_ok h) (hh : rb_here h m0 = false) : mr_M l my_B_comes mc_B_comes 4 (some .int) 6 D mn_cl Z mb_B tys ma_sh [va_rf (some (ad 20 0)), .int (Int32.ofNat m0)] ad (ma_R g (rb_R h o)) (some (.int (rb_comes h m0).2)) (ma_R g (rb_R (rb_comes h m0).1 o)) := by
  have hs4 : m0 / 24 < 4 := by omega
  have hgl := rb_gap_le (rb_put h m0) (m0 / 24)
  refine mg_M.of (cc := mc_B_comes) (maxL := 4) (ret := (some .int)) (by decide) rfl (Nat.le_of_ble_eq_true rfl) (mg_caS rfl (mg_caS rfl mg_ca0)) ?_
  intro p e s m args below meth c K hret hlk hnm hA
  have rest : ¬ (¬ h 26 m0 = 3 ∧ rb_gap (rb_put h m0) (m0 / 24) < m0 % 24 + 1) → mg_G p l e (mg_rm 6 0 0) s m args below meth c D mn_cl Z (mg_A ad (mr_C tys ma_sh ad (ma_R g (rb_R h o))) s.heap.size) s.heap 4 (MQ below (mg_Qc D mn_cl Z ad (mr_C tys ma_sh ad (ma_R g (rb_R h o))) s.heap.size (mg_Po tys ma_sh ad (some (.int (rb_comes h m0).2)) (ma_R g (rb_R (rb_comes h m0).1 o)))) args s 0 0 (mg_A ad (mr_C tys ma_sh ad (ma_R g (rb_R h o))) s.heap.size)) ad (mr_C tys ma_sh ad (ma_R g (rb_R (rb_put h m0) o))) [some (va_rf (some (ad 20 0))), some (.int (Int32.ofNat m0)), some (.int (Int32.ofNat (m0 / 24)))] 0 0 [] 69 := by
    intro hq
    have hC : rb_comes h m0 = (rb_rel (rb_takes (rb_put h m0) m0) (m0 / 24), (rb_dec (rb_put h m0) m0).2) := if_neg hq
    refine mg_aload_n K md_B_comes_69 rfl ?_
    refine mg_iload_n K md_B_comes_70 rfl ?_
    refine mr_cV K hA (ct_B_takes hty g (rb_put h m0) o hm (rb_put_ok ho hm hh) (by rw [rb_put_24]; decide) (by rw [rb_put_29]; decide) (by rw [rb_put_29]; decide)) ms_B_112 (by decide) md_B_comes_71 rfl rfl Nat.zero_lt_one rfl (Nat.le_of_ble_eq_true rfl) ⟨Nat.zero_le _, Nat.zero_le _⟩ ?_
    refine mg_istore_n K md_B_comes_74 (by decide) ?_
    refine mg_aload_n K md_B_comes_75 rfl ?_
    refine mg_iload_n K md_B_comes_76 rfl ?_
    refine mr_cV K hA (ct_B_releases hty g (rb_takes (rb_put h m0) m0) o hs4 (rb_put_t ho hm hh)) ms_B_115 (by decide) md_B_comes_77 rfl rfl Nat.zero_lt_one rfl (Nat.le_of_ble_eq_true rfl) ⟨Nat.zero_le _, Nat.zero_le _⟩ ?_
    refine mg_iload_n K md_B_comes_80 rfl ?_
    exact mg_iret K hret hlk md_B_comes_81 (Nat.le_refl _) (Nat.le_refl _) ⟨by rw [hC], rfl, by rw [hC]⟩
  refine mg_iload_n K md_B_comes_0 rfl ?_
  refine mg_bipush K (v := 24) md_B_comes_1 (by decide) ?_
  refine mg_idiv K md_B_comes_3 (by decide) ?_
  rw [mi_div ⟨m0, hm⟩]
  refine mg_istore_n K md_B_comes_4 (by decide) ?_
  refine mg_aload_n K md_B_comes_5 rfl ?_
  refine mr_getS (k2 := 24) (i2 := 0) K mf_B_19 md_B_comes_6 Nat.zero_lt_one rfl ?_
  refine mg_iload_n K md_B_comes_9 rfl ?_
  refine mg_iconst K (v := 1) md_B_comes_10 (by decide) ?_
  refine mr_zast (v := 1) K rfl (ma_t hty 2) md_B_comes_11 Nat.zero_lt_one (mi_vn (by omega) (by omega)) (by decide) ?_
  rw [mi_tn (by omega)]
  refine mr_eqr (rb_sI _ _ _ _ _ _ (by decide)) ?_
  refine mg_aload_n K md_B_comes_12 rfl ?_
  refine mr_getS (k2 := 29) (i2 := 0) K mf_B_35 md_B_comes_13 Nat.zero_lt_one rfl ?_
  refine mg_iload_n K md_B_comes_16 rfl ?_
  refine mg_iconst K (v := 0) md_B_comes_17 (by decide) ?_
  refine mr_iast K rfl (ma_t hty 4) md_B_comes_18 Nat.zero_lt_one (mi_vn (by omega) (by omega)) ?_
  rw [mi_tn (by omega)]
  refine mr_eqr (rb_sI _ _ _ _ _ _ (by decide)) ?_
  refine mg_aload_n K md_B_comes_19 rfl ?_
  refine mr_getS (k2 := 30) (i2 := 0) K mf_B_38 md_B_comes_20 Nat.zero_lt_one rfl ?_
  refine mg_iload_n K md_B_comes_23 rfl ?_
  refine mg_iconst K (v := 0) md_B_comes_24 (by decide) ?_
  refine mr_iast K rfl (ma_t hty 4) md_B_comes_25 Nat.zero_lt_one (mi_vn (by omega) (by omega)) ?_
  rw [mi_tn (by omega)]
  refine mr_eqr (rb_sI _ _ _ _ _ _ (by decide)) ?_
  refine mg_aload_n K md_B_comes_26 rfl ?_
  refine mr_getS (k2 := 31) (i2 := 0) K mf_B_41 md_B_comes_27 Nat.zero_lt_one rfl ?_
  refine mg_iload_n K md_B_comes_30 rfl ?_
  refine mg_aload_n K md_B_comes_31 rfl ?_
  refine mr_getI (v := h 20 1) K mf_B_90 md_B_comes_32 (by decide) Nat.zero_lt_one rfl ?_
  refine mr_iast K rfl (ma_t hty 4) md_B_comes_35 Nat.zero_lt_one (mi_vn (by omega) (by omega)) ?_
  rw [mi_tn (by omega)]
  refine mr_eqr (rb_sI _ _ _ _ _ _ (by decide)) ?_
  refine mg_aload_n K md_B_comes_36 rfl ?_
  refine mr_getS (k2 := 33) (i2 := 0) K mf_B_47 md_B_comes_37 Nat.zero_lt_one rfl ?_
  refine mg_iload_n K md_B_comes_40 rfl ?_
  refine mg_iconst K (v := 0) md_B_comes_41 (by decide) ?_
  refine mr_zast (v := 0) K rfl (ma_t hty 2) md_B_comes_42 Nat.zero_lt_one (mi_vn (by omega) (by omega)) (by decide) ?_
  rw [mi_tn (by omega)]
  refine mr_eqr (rb_sI _ _ _ _ _ _ (by decide)) ?_
  rw [show mg_u (mg_u (mg_u (mg_u (mg_u h 24 m0 1) 29 m0 0) 30 m0 0) 31 m0 (h 20 1)) 33 m0 0 = rb_put h m0 from rfl]
  refine mg_aload_n K md_B_comes_43 rfl ?_
  refine mr_getS (k2 := 26) (i2 := 0) K mf_B_26 md_B_comes_44 Nat.zero_lt_one rfl ?_
  refine mg_iload_n K md_B_comes_47 rfl ?_
  refine mr_iald (v := h 26 m0) K rfl (ma_t hty 4) md_B_comes_48 Nat.zero_lt_one (mi_vn (by omega) (by omega)) (by rw [mi_tn (by omega)]; rfl) ?_
  refine mg_iconst K (v := 3) md_B_comes_49 (by decide) ?_
  refine mg_icmp_eq K 69 md_B_comes_50 rfl (fun h50 => ?_) (fun h50 => ?_)
  · exact rest (fun z => z.1 h50)
  · refine mg_aload_n K md_B_comes_53 rfl ?_
    refine mg_iload_n K md_B_comes_54 rfl ?_
    refine mr_cV K hA (ct_B_gap hty g (rb_put h m0) o hs4) ms_B_109 (by decide) md_B_comes_55 rfl rfl Nat.zero_lt_one rfl (Nat.le_of_ble_eq_true rfl) ⟨Nat.zero_le _, Nat.zero_le _⟩ ?_
    refine mg_iload_n K md_B_comes_58 rfl ?_
    refine mg_bipush K (v := 24) md_B_comes_59 (by decide) ?_
    refine mg_irem K md_B_comes_61 (by decide) ?_
    rw [mi_rem ⟨m0, hm⟩]
    refine mg_iconst K (v := 1) md_B_comes_62 (by decide) ?_
    refine mg_iadd K md_B_comes_63 ?_
    rw [mi_a1]
    refine mg_icmp_ge K 69 md_B_comes_64 rfl (fun h64 => ?_) (fun h64 => ?_)
    · exact rest (fun z => absurd ((mi_le (a := m0 % 24 + 1) (b := rb_gap (rb_put h m0) (m0 / 24)) (by omega) (by omega)).mp h64) (by omega))
    · have hlt : rb_gap (rb_put h m0) (m0 / 24) < m0 % 24 + 1 := by have := mt (mi_le (a := m0 % 24 + 1) (b := rb_gap (rb_put h m0) (m0 / 24)) (by omega) (by omega)).mpr h64; omega
      have hC : rb_comes h m0 = (rb_put h m0, 2) := if_pos ⟨h50, hlt⟩
      refine mg_iconst K (v := 2) md_B_comes_67 (by decide) ?_
      exact mg_iret K hret hlk md_B_comes_68 (Nat.le_refl _) (Nat.le_refl _) ⟨by rw [hC], rfl, by rw [hC]⟩
end RB5
