/-! the reference: a message's turn -/
def rb_sub (h : rb_S) (m : Nat) : Nat := (h 27 m).toNatClampNeg
def rb_fn (h : rb_S) (m : Nat) : Nat := (h 26 m).toNatClampNeg
/-- the ranges of a message's function and subject -/
def rb_rg (h : rb_S) : Prop := ∀ m, m < 96 → (h 27 m = Int32.ofNat (rb_sub h m) ∧ rb_sub h m < 16) ∧ h 26 m = Int32.ofNat (rb_fn h m) ∧ rb_fn h m < 5
def rb_rule (h : rb_S) (m : Nat) : Int32 :=
  if Int32.ofNat (rb_fn h m) = 0 ∨ Int32.ofNat (rb_fn h m) = 3 then (if Int32.ofNat (rb_fn h m) = 0 ∧ (h 21 (rb_sub h m) = 1 ∨ h 21 (rb_sub h m) = 2) then 1 else 0)
  else if ¬ h 21 (rb_sub h m) = 1 then (if h 21 (rb_sub h m) = 2 then 2 else if h 21 (rb_sub h m) = 3 then 3 else if Int32.ofNat (rb_many h 3) = 12 then 5 else 0)
  else if Int32.ofNat (rb_fn h m) = 2 ∧ ¬ (¬ h 22 (rb_sub h m) + h 28 m < -1000000 ∧ ¬ 1000000 < h 22 (rb_sub h m) + h 28 m) then 4 else 0
def rb_x1 (h : rb_S) (m : Nat) : Int32 := if Int32.ofNat (rb_fn h m) = 3 then 10 * h 22 (rb_sub h m) + h 21 (rb_sub h m) else 0
def rb_x2 (h : rb_S) (m : Nat) : Int32 := if Int32.ofNat (rb_fn h m) = 0 ∨ Int32.ofNat (rb_fn h m) = 1 then h 28 m else if Int32.ofNat (rb_fn h m) = 2 then h 22 (rb_sub h m) + h 28 m else h 22 (rb_sub h m)
def rb_x3 (h : rb_S) (m : Nat) : Int32 := if Int32.ofNat (rb_fn h m) = 0 then 1 else if Int32.ofNat (rb_fn h m) = 4 then 3 else h 21 (rb_sub h m)
def rb_acts (h : rb_S) (m : Nat) : rb_S := mg_u (mg_u (mg_u (mg_u (mg_u (mg_u (mg_u h 30 m (rb_x1 h m)) 22 (rb_sub h m) (rb_x2 h m)) 21 (rb_sub h m) (rb_x3 h m)) 23 (rb_sub h m) (h 23 (rb_sub h m) + 1)) 29 m 1) 36 (h 20 18).toNatClampNeg (Int32.ofNat m)) 20 18 (h 20 18 + 1)
def rb_fails (h : rb_S) (m : Nat) : rb_S :=
  if h 33 m = 0 then mg_u (mg_u (mg_u (mg_u (mg_u h 35 (rb_fn h m) 0) 29 m 4) 33 m 1) 34 m (h 20 16)) 20 16 (h 20 16 + 1)
  else mg_u (mg_u (mg_u (mg_u (mg_u (mg_u (mg_u h 35 (rb_fn h m) 0) 29 m 5) 37 (h 20 20).toNatClampNeg (Int32.ofNat m)) 20 20 (h 20 20 + 1)) 33 m 1) 34 m (h 20 16)) 20 16 (h 20 16 + 1)
def rb_dec (h : rb_S) (m : Nat) : rb_S × Int32 :=
  if ¬ rb_rule h m ≤ 0 then (mg_u (mg_u h 29 m 2) 30 m (-rb_rule h m), -rb_rule h m)
  else if ¬ Int32.ofNat (rb_fn h m) = 0 ∧ ¬ Int32.ofNat (rb_fn h m) = 3 ∧ h 21 (rb_sub h m) = 0 then (mg_u (mg_u (mg_u (mg_u h 29 m 3) 32 m (h 20 1)) 34 m (h 20 16)) 20 16 (h 20 16 + 1), 4)
  else if ¬ h 35 (rb_fn h m) = 0 then (rb_fails h m, 5) else (rb_acts h m, 1)
abbrev rb_is (h : rb_S) (w s t : Int32) (k : Nat) : Prop := ¬ h 24 k = 0 ∧ h 29 k = w ∧ (s = -1 ∨ h 27 k = s) ∧ ¬ t ≤ h 34 k
def rb_f1 (h : rb_S) (w s t : Int32) (k : Nat) : Option Nat → Option Nat
  | none => if rb_is h w s t k then some k else none
  | some j => if rb_is h w s t k ∧ ¬ h 34 j ≤ h 34 k then some k else some j
def rb_fF (h : rb_S) (w s t : Int32) : Nat → Nat → Option Nat → Option Nat
  | _, 0, x => x
  | k, f + 1, x => rb_fF h w s t (k + 1) f (rb_f1 h w s t k x)
def rb_first (h : rb_S) (w s t : Int32) : Option Nat := rb_fF h w s t 0 96 none
def rb_on (x : Option Nat) : Int32 := match x with
  | none => -1
  | some j => Int32.ofNat j
section RB2
variable {l : Launch} {D : va_G} {Z : Nat × Cell} {tys : List (ClassId × FieldType)} {ad : mg_Ad}
theorem ct_B_rule (hty : tys.map (·.2) = ma_ty) (g : ca_S) (h : rb_S) (o : Int64) {m0 : Nat} (hm : m0 < 96) (hrg : rb_rg h) : mr_M l my_B_rule mc_B_rule 4 (some .int) 2 D mn_cl Z mb_B tys ma_sh [va_rf (some (ad 20 0)), .int (Int32.ofNat m0)] ad (ma_R g (rb_R h o)) (some (.int (rb_rule h m0))) (ma_R g (rb_R h o)) := by
  have hr0 := hrg m0 hm
  have hsu := hr0.1.1
  have hu := hr0.1.2
  have hfu := hr0.2.1
  have hf5 := hr0.2.2
  refine mg_M.of (cc := mc_B_rule) (maxL := 4) (ret := (some .int)) (by decide) rfl (Nat.le_of_ble_eq_true rfl) (mg_caS rfl (mg_caS rfl mg_ca0)) ?_
  intro p e s m args below meth c K hret hlk hnm hA
  refine mg_aload_n K md_B_rule_0 rfl ?_
  refine mr_getS (k2 := 21) (i2 := 0) K mf_B_7 md_B_rule_1 Nat.zero_lt_one rfl ?_
  refine mg_aload_n K md_B_rule_4 rfl ?_
  refine mr_getS (k2 := 27) (i2 := 0) K mf_B_29 md_B_rule_5 Nat.zero_lt_one rfl ?_
  refine mg_iload_n K md_B_rule_8 rfl ?_
  refine mr_iald (v := Int32.ofNat (rb_sub h m0)) K rfl (ma_t hty 4) md_B_rule_9 Nat.zero_lt_one (mi_vn (by omega) (by omega)) (by rw [mi_tn (by omega)]; exact hsu) ?_
  refine mr_iald (v := h 21 (rb_sub h m0)) K rfl (ma_t hty 4) md_B_rule_10 Nat.zero_lt_one (mi_vn (by omega) (by omega)) (by rw [mi_tn (by omega)]; rfl) ?_
  refine mg_istore_n K md_B_rule_11 (by decide) ?_
  refine mg_aload_n K md_B_rule_12 rfl ?_
  refine mr_getS (k2 := 26) (i2 := 0) K mf_B_26 md_B_rule_13 Nat.zero_lt_one rfl ?_
  refine mg_iload_n K md_B_rule_16 rfl ?_
  refine mr_iald (v := Int32.ofNat (rb_fn h m0)) K rfl (ma_t hty 4) md_B_rule_17 Nat.zero_lt_one (mi_vn (by omega) (by omega)) (by rw [mi_tn (by omega)]; exact hfu) ?_
  refine mg_istore_n K md_B_rule_18 (by decide) ?_
  refine mg_iload_n K md_B_rule_19 rfl ?_
  refine mg_if_eq K 28 md_B_rule_20 rfl (fun h20 => ?_) (fun h20 => ?_)
  · refine mg_iload_n K md_B_rule_28 rfl ?_
    refine mg_if_ne K 46 md_B_rule_29 rfl (fun h29 => ?_) (fun h29 => ?_)
    · refine mg_iconst K (v := 0) md_B_rule_46 (by decide) ?_
      exact mg_iret K hret hlk md_B_rule_47 (Nat.le_refl _) (Nat.le_refl _) ⟨by first | contradiction | (unfold rb_rule; simp [h20, h29]; done), rfl, rfl⟩
    · refine mg_iload_n K md_B_rule_32 rfl ?_
      refine mg_iconst K (v := 1) md_B_rule_33 (by decide) ?_
      refine mg_icmp_eq K 42 md_B_rule_34 rfl (fun h34 => ?_) (fun h34 => ?_)
      · refine mg_iconst K (v := 1) md_B_rule_42 (by decide) ?_
        refine mg_goto K 47 md_B_rule_43 rfl ?_
        exact mg_iret K hret hlk md_B_rule_47 (Nat.le_refl _) (Nat.le_refl _) ⟨by first | contradiction | (unfold rb_rule; simp [h20, h29, h34]; done), rfl, rfl⟩
      · refine mg_iload_n K md_B_rule_37 rfl ?_
        refine mg_iconst K (v := 2) md_B_rule_38 (by decide) ?_
        refine mg_icmp_ne K 46 md_B_rule_39 rfl (fun h39 => ?_) (fun h39 => ?_)
        · refine mg_iconst K (v := 0) md_B_rule_46 (by decide) ?_
          exact mg_iret K hret hlk md_B_rule_47 (Nat.le_refl _) (Nat.le_refl _) ⟨by first | contradiction | (unfold rb_rule; simp [h20, h29, h34, h39]; done), rfl, rfl⟩
        · refine mg_iconst K (v := 1) md_B_rule_42 (by decide) ?_
          refine mg_goto K 47 md_B_rule_43 rfl ?_
          exact mg_iret K hret hlk md_B_rule_47 (Nat.le_refl _) (Nat.le_refl _) ⟨by first | contradiction | (unfold rb_rule; simp [h20, h29, h34, h39]; done), rfl, rfl⟩
  · refine mg_iload_n K md_B_rule_23 rfl ?_
    refine mg_iconst K (v := 3) md_B_rule_24 (by decide) ?_
    refine mg_icmp_ne K 48 md_B_rule_25 rfl (fun h25 => ?_) (fun h25 => ?_)
    · refine mg_iload_n K md_B_rule_48 rfl ?_
      refine mg_iconst K (v := 1) md_B_rule_49 (by decide) ?_
      refine mg_icmp_eq K 87 md_B_rule_50 rfl (fun h50 => ?_) (fun h50 => ?_)
      · refine mg_iload_n K md_B_rule_87 rfl ?_
        refine mg_iconst K (v := 2) md_B_rule_88 (by decide) ?_
        refine mg_icmp_ne K 124 md_B_rule_89 rfl (fun h89 => ?_) (fun h89 => ?_)
        · refine mg_iconst K (v := 0) md_B_rule_124 (by decide) ?_
          exact mg_iret K hret hlk md_B_rule_125 (Nat.le_refl _) (Nat.le_refl _) ⟨by first | contradiction | (unfold rb_rule; simp [h20, h25, h50, h89]; done), rfl, rfl⟩
        · refine mg_aload_n K md_B_rule_92 rfl ?_
          refine mr_getS (k2 := 22) (i2 := 0) K mf_B_13 md_B_rule_93 Nat.zero_lt_one rfl ?_
          refine mg_aload_n K md_B_rule_96 rfl ?_
          refine mr_getS (k2 := 27) (i2 := 0) K mf_B_29 md_B_rule_97 Nat.zero_lt_one rfl ?_
          refine mg_iload_n K md_B_rule_100 rfl ?_
          refine mr_iald (v := Int32.ofNat (rb_sub h m0)) K rfl (ma_t hty 4) md_B_rule_101 Nat.zero_lt_one (mi_vn (by omega) (by omega)) (by rw [mi_tn (by omega)]; exact hsu) ?_
          refine mr_iald (v := h 22 (rb_sub h m0)) K rfl (ma_t hty 4) md_B_rule_102 Nat.zero_lt_one (mi_vn (by omega) (by omega)) (by rw [mi_tn (by omega)]; rfl) ?_
          refine mg_aload_n K md_B_rule_103 rfl ?_
          refine mr_getS (k2 := 28) (i2 := 0) K mf_B_32 md_B_rule_104 Nat.zero_lt_one rfl ?_
          refine mg_iload_n K md_B_rule_107 rfl ?_
          refine mr_iald (v := h 28 m0) K rfl (ma_t hty 4) md_B_rule_108 Nat.zero_lt_one (mi_vn (by omega) (by omega)) (by rw [mi_tn (by omega)]; rfl) ?_
          refine mg_iadd K md_B_rule_109 ?_
          refine mg_ldc K md_B_rule_110 mk_B_74 ?_
          refine mg_ldc K md_B_rule_112 mk_B_75 ?_
          refine mr_cP K hA (ct_B_in (h 22 (rb_sub h m0) + h 28 m0) (-1000000) 1000000) ms_B_76 (by decide) md_B_rule_114 rfl (Nat.le_of_ble_eq_true rfl) ⟨Nat.zero_le _, Nat.zero_le _⟩ ?_
          refine mg_if_ne K 124 md_B_rule_117 rfl (fun h117 => ?_) (fun h117 => ?_)
          · have hin : (¬ h 22 (rb_sub h m0) + h 28 m0 < -1000000 ∧ ¬ 1000000 < h 22 (rb_sub h m0) + h 28 m0) := Classical.byContradiction (fun z => h117 (if_neg z))
            refine mg_iconst K (v := 0) md_B_rule_124 (by decide) ?_
            exact mg_iret K hret hlk md_B_rule_125 (Nat.le_refl _) (Nat.le_refl _) ⟨by first | contradiction | (unfold rb_rule; simp [h20, h25, h50, h89, hin]; done) | (unfold rb_rule; rw [if_neg (by simp [h20, h25]), if_neg (by simp [h50]), if_pos ⟨h89, hin⟩]) | (unfold rb_rule; rw [if_neg (by simp [h20, h25]), if_neg (by simp [h50]), if_neg (fun z => z.2 hin)]), rfl, rfl⟩
          · have hin : ¬ (¬ h 22 (rb_sub h m0) + h 28 m0 < -1000000 ∧ ¬ 1000000 < h 22 (rb_sub h m0) + h 28 m0) := fun z => by rw [if_pos z] at h117; exact absurd h117 (by decide)
            refine mg_iconst K (v := 4) md_B_rule_120 (by decide) ?_
            refine mg_goto K 125 md_B_rule_121 rfl ?_
            exact mg_iret K hret hlk md_B_rule_125 (Nat.le_refl _) (Nat.le_refl _) ⟨by first | contradiction | (unfold rb_rule; simp [h20, h25, h50, h89, hin]; done) | (unfold rb_rule; rw [if_neg (by simp [h20, h25]), if_neg (by simp [h50]), if_pos ⟨h89, hin⟩]) | (unfold rb_rule; rw [if_neg (by simp [h20, h25]), if_neg (by simp [h50]), if_neg (fun z => z.2 hin)]), rfl, rfl⟩
      · refine mg_iload_n K md_B_rule_53 rfl ?_
        refine mg_iconst K (v := 2) md_B_rule_54 (by decide) ?_
        refine mg_icmp_ne K 62 md_B_rule_55 rfl (fun h55 => ?_) (fun h55 => ?_)
        · refine mg_iload_n K md_B_rule_62 rfl ?_
          refine mg_iconst K (v := 3) md_B_rule_63 (by decide) ?_
          refine mg_icmp_ne K 71 md_B_rule_64 rfl (fun h64 => ?_) (fun h64 => ?_)
          · refine mg_aload_n K md_B_rule_71 rfl ?_
            refine mg_iconst K (v := 3) md_B_rule_72 (by decide) ?_
            refine mr_cV K hA (ct_B_many hty g h o 3) ms_B_70 (by decide) md_B_rule_73 rfl rfl Nat.zero_lt_one rfl (Nat.le_of_ble_eq_true rfl) ⟨Nat.zero_le _, Nat.zero_le _⟩ ?_
            refine mg_bipush K (v := 12) md_B_rule_76 (by decide) ?_
            refine mg_icmp_ne K 85 md_B_rule_78 rfl (fun h78 => ?_) (fun h78 => ?_)
            · refine mg_iconst K (v := 0) md_B_rule_85 (by decide) ?_
              exact mg_iret K hret hlk md_B_rule_86 (Nat.le_refl _) (Nat.le_refl _) ⟨by first | contradiction | (unfold rb_rule; simp [h20, h25, h50, h55, h64, h78]; done), rfl, rfl⟩
            · refine mg_iconst K (v := 5) md_B_rule_81 (by decide) ?_
              refine mg_goto K 86 md_B_rule_82 rfl ?_
              exact mg_iret K hret hlk md_B_rule_86 (Nat.le_refl _) (Nat.le_refl _) ⟨by first | contradiction | (unfold rb_rule; simp [h20, h25, h50, h55, h64, h78]; done), rfl, rfl⟩
          · refine mg_iconst K (v := 3) md_B_rule_67 (by decide) ?_
            refine mg_goto K 86 md_B_rule_68 rfl ?_
            exact mg_iret K hret hlk md_B_rule_86 (Nat.le_refl _) (Nat.le_refl _) ⟨by first | contradiction | (unfold rb_rule; simp [h20, h25, h50, h55, h64]; done), rfl, rfl⟩
        · refine mg_iconst K (v := 2) md_B_rule_58 (by decide) ?_
          refine mg_goto K 86 md_B_rule_59 rfl ?_
          exact mg_iret K hret hlk md_B_rule_86 (Nat.le_refl _) (Nat.le_refl _) ⟨by first | contradiction | (unfold rb_rule; simp [h20, h25, h50, h55]; done), rfl, rfl⟩
    · refine mg_iload_n K md_B_rule_28 rfl ?_
      refine mg_if_ne K 46 md_B_rule_29 rfl (fun h29 => ?_) (fun h29 => ?_)
      · refine mg_iconst K (v := 0) md_B_rule_46 (by decide) ?_
        exact mg_iret K hret hlk md_B_rule_47 (Nat.le_refl _) (Nat.le_refl _) ⟨by first | contradiction | (unfold rb_rule; simp [h20, h25, h29]; done) | (exfalso; rw [h25] at h29; exact absurd h29 (by decide)), rfl, rfl⟩
      · refine mg_iload_n K md_B_rule_32 rfl ?_
        refine mg_iconst K (v := 1) md_B_rule_33 (by decide) ?_
        refine mg_icmp_eq K 42 md_B_rule_34 rfl (fun h34 => ?_) (fun h34 => ?_)
        · refine mg_iconst K (v := 1) md_B_rule_42 (by decide) ?_
          refine mg_goto K 47 md_B_rule_43 rfl ?_
          exact mg_iret K hret hlk md_B_rule_47 (Nat.le_refl _) (Nat.le_refl _) ⟨by first | contradiction | (unfold rb_rule; simp [h20, h25, h29, h34]; done) | (exfalso; rw [h25] at h29; exact absurd h29 (by decide)), rfl, rfl⟩
        · refine mg_iload_n K md_B_rule_37 rfl ?_
          refine mg_iconst K (v := 2) md_B_rule_38 (by decide) ?_
          refine mg_icmp_ne K 46 md_B_rule_39 rfl (fun h39 => ?_) (fun h39 => ?_)
          · refine mg_iconst K (v := 0) md_B_rule_46 (by decide) ?_
            exact mg_iret K hret hlk md_B_rule_47 (Nat.le_refl _) (Nat.le_refl _) ⟨by first | contradiction | (unfold rb_rule; simp [h20, h25, h29, h34, h39]; done) | (exfalso; rw [h25] at h29; exact absurd h29 (by decide)), rfl, rfl⟩
          · refine mg_iconst K (v := 1) md_B_rule_42 (by decide) ?_
            refine mg_goto K 47 md_B_rule_43 rfl ?_
            exact mg_iret K hret hlk md_B_rule_47 (Nat.le_refl _) (Nat.le_refl _) ⟨by first | contradiction | (unfold rb_rule; simp [h20, h25, h29, h34, h39]; done) | (exfalso; rw [h25] at h29; exact absurd h29 (by decide)), rfl, rfl⟩
theorem ct_B_acts (hty : tys.map (·.2) = ma_ty) (g : ca_S) (h : rb_S) (o : Int64) {m0 : Nat} (hm : m0 < 96) (hrg : rb_rg h) {na : Nat} (hna : h 20 18 = Int32.ofNat na) (hn96 : na < 96) : mr_M l my_B_acts mc_B_acts 4 none 1 D mn_cl Z mb_B tys ma_sh [va_rf (some (ad 20 0)), .int (Int32.ofNat m0)] ad (ma_R g (rb_R h o)) none (ma_R g (rb_R (rb_acts h m0) o)) := by
  have hr0 := hrg m0 hm
  have hsu := hr0.1.1
  have hu := hr0.1.2
  have hfu := hr0.2.1
  have hf5 := hr0.2.2
  have htn : (h 20 18).toNatClampNeg = na := by rw [hna, mi_tn (by omega)]
  refine mg_M.of (cc := mc_B_acts) (maxL := 4) (ret := none) (by decide) rfl (Nat.le_of_ble_eq_true rfl) (mg_caS rfl (mg_caS rfl mg_ca0)) ?_
  intro p e s m args below meth c K hret hlk hnm hA
  have j4 : mg_G p l e (mg_rm 1 0 0) s m args below meth c D mn_cl Z (mg_A ad (mr_C tys ma_sh ad (ma_R g (rb_R h o))) s.heap.size) s.heap 4 (MQ below (mg_Qc D mn_cl Z ad (mr_C tys ma_sh ad (ma_R g (rb_R h o))) s.heap.size (mg_Po tys ma_sh ad none (ma_R g (rb_R (rb_acts h m0) o)))) args s 0 0 (mg_A ad (mr_C tys ma_sh ad (ma_R g (rb_R h o))) s.heap.size)) ad (mr_C tys ma_sh ad (ma_R g (rb_R (mg_u (mg_u (mg_u h 30 m0 (rb_x1 h m0)) 22 (rb_sub h m0) (rb_x2 h m0)) 21 (rb_sub h m0) (rb_x3 h m0)) o))) [some (va_rf (some (ad 20 0))), some (.int (Int32.ofNat m0)), some (.int (Int32.ofNat (rb_sub h m0))), some (.int (Int32.ofNat (rb_fn h m0)))] 0 0 [] 125 := by
    refine mg_aload_n K md_B_acts_125 rfl ?_
    refine mr_getS (k2 := 23) (i2 := 0) K mf_B_16 md_B_acts_126 Nat.zero_lt_one rfl ?_
    refine mg_iload_n K md_B_acts_129 rfl ?_
    refine mg_dup2 K md_B_acts_130 rfl rfl ?_
    refine mr_iald (v := h 23 (rb_sub h m0)) K rfl (ma_t hty 4) md_B_acts_131 Nat.zero_lt_one (mi_vn (by omega) (by omega)) (by rw [mi_tn (by omega)]; rfl) ?_
    refine mg_iconst K (v := 1) md_B_acts_132 (by decide) ?_
    refine mg_iadd K md_B_acts_133 ?_
    refine mr_iast K rfl (ma_t hty 4) md_B_acts_134 Nat.zero_lt_one (mi_vn (by omega) (by omega)) ?_
    rw [mi_tn (by omega)]
    refine mr_eqr (rb_sI _ _ _ _ _ _ (by decide)) ?_
    refine mg_aload_n K md_B_acts_135 rfl ?_
    refine mr_getS (k2 := 29) (i2 := 0) K mf_B_35 md_B_acts_136 Nat.zero_lt_one rfl ?_
    refine mg_iload_n K md_B_acts_139 rfl ?_
    refine mg_iconst K (v := 1) md_B_acts_140 (by decide) ?_
    refine mr_iast K rfl (ma_t hty 4) md_B_acts_141 Nat.zero_lt_one (mi_vn (by omega) (by omega)) ?_
    rw [mi_tn (by omega)]
    refine mr_eqr (rb_sI _ _ _ _ _ _ (by decide)) ?_
    refine mg_aload_n K md_B_acts_142 rfl ?_
    refine mr_getS (k2 := 36) (i2 := 0) K mf_B_56 md_B_acts_143 Nat.zero_lt_one rfl ?_
    refine mg_aload_n K md_B_acts_146 rfl ?_
    refine mr_getI (v := Int32.ofNat na) K mf_B_80 md_B_acts_147 (by decide) Nat.zero_lt_one hna ?_
    refine mg_iload_n K md_B_acts_150 rfl ?_
    refine mr_iast K rfl (ma_t hty 4) md_B_acts_151 Nat.zero_lt_one (mi_vn (by omega) (by omega)) ?_
    rw [mi_tn (by omega)]
    refine mr_eqr (rb_sI _ _ _ _ _ _ (by decide)) ?_
    refine mg_aload_n K md_B_acts_152 rfl ?_
    refine mg_dup K md_B_acts_153 rfl ?_
    refine mr_getI (v := Int32.ofNat na) K mf_B_80 md_B_acts_154 (by decide) Nat.zero_lt_one hna ?_
    refine mg_iconst K (v := 1) md_B_acts_157 (by decide) ?_
    refine mg_iadd K md_B_acts_158 ?_
    refine mr_putI K mf_B_80 md_B_acts_159 Nat.zero_lt_one ?_
    refine mr_eqr (rb_sI _ _ _ _ _ _ (by decide)) ?_
    exact mg_vret K hret hlk md_B_acts_162 (Nat.le_refl _) (Nat.le_refl _) ⟨rfl, rfl, by unfold rb_acts; rw [htn, hna]⟩
  have j3 : ∀ x, x = rb_x3 h m0 → mg_G p l e (mg_rm 1 0 0) s m args below meth c D mn_cl Z (mg_A ad (mr_C tys ma_sh ad (ma_R g (rb_R h o))) s.heap.size) s.heap 4 (MQ below (mg_Qc D mn_cl Z ad (mr_C tys ma_sh ad (ma_R g (rb_R h o))) s.heap.size (mg_Po tys ma_sh ad none (ma_R g (rb_R (rb_acts h m0) o)))) args s 0 0 (mg_A ad (mr_C tys ma_sh ad (ma_R g (rb_R h o))) s.heap.size)) ad (mr_C tys ma_sh ad (ma_R g (rb_R (mg_u (mg_u h 30 m0 (rb_x1 h m0)) 22 (rb_sub h m0) (rb_x2 h m0)) o))) [some (va_rf (some (ad 20 0))), some (.int (Int32.ofNat m0)), some (.int (Int32.ofNat (rb_sub h m0))), some (.int (Int32.ofNat (rb_fn h m0)))] 0 0 [.int x, .int (Int32.ofNat (rb_sub h m0)), va_rf (some (ad 21 0))] 124 := by
    rintro x rfl
    refine mr_iast K rfl (ma_t hty 4) md_B_acts_124 Nat.zero_lt_one (mi_vn (by omega) (by omega)) ?_
    rw [mi_tn (by omega)]
    refine mr_eqr (rb_sI _ _ _ _ _ _ (by decide)) ?_
    exact j4
  have j2 : ∀ x, x = rb_x2 h m0 → mg_G p l e (mg_rm 1 0 0) s m args below meth c D mn_cl Z (mg_A ad (mr_C tys ma_sh ad (ma_R g (rb_R h o))) s.heap.size) s.heap 4 (MQ below (mg_Qc D mn_cl Z ad (mr_C tys ma_sh ad (ma_R g (rb_R h o))) s.heap.size (mg_Po tys ma_sh ad none (ma_R g (rb_R (rb_acts h m0) o)))) args s 0 0 (mg_A ad (mr_C tys ma_sh ad (ma_R g (rb_R h o))) s.heap.size)) ad (mr_C tys ma_sh ad (ma_R g (rb_R (mg_u h 30 m0 (rb_x1 h m0)) o))) [some (va_rf (some (ad 20 0))), some (.int (Int32.ofNat m0)), some (.int (Int32.ofNat (rb_sub h m0))), some (.int (Int32.ofNat (rb_fn h m0)))] 0 0 [.int x, .int (Int32.ofNat (rb_sub h m0)), va_rf (some (ad 22 0))] 95 := by
    rintro x rfl
    refine mr_iast K rfl (ma_t hty 4) md_B_acts_95 Nat.zero_lt_one (mi_vn (by omega) (by omega)) ?_
    rw [mi_tn (by omega)]
    refine mr_eqr (rb_sI _ _ _ _ _ _ (by decide)) ?_
    refine mg_aload_n K md_B_acts_96 rfl ?_
    refine mr_getS (k2 := 21) (i2 := 0) K mf_B_7 md_B_acts_97 Nat.zero_lt_one rfl ?_
    refine mg_iload_n K md_B_acts_100 rfl ?_
    refine mg_iload_n K md_B_acts_101 rfl ?_
    refine mg_if_ne K 109 md_B_acts_102 rfl (fun h102 => ?_) (fun h102 => ?_)
    · refine mg_iload_n K md_B_acts_109 rfl ?_
      refine mg_iconst K (v := 4) md_B_acts_110 (by decide) ?_
      refine mg_icmp_ne K 118 md_B_acts_111 rfl (fun h111 => ?_) (fun h111 => ?_)
      · refine mg_aload_n K md_B_acts_118 rfl ?_
        refine mr_getS (k2 := 21) (i2 := 0) K mf_B_7 md_B_acts_119 Nat.zero_lt_one rfl ?_
        refine mg_iload_n K md_B_acts_122 rfl ?_
        refine mr_iald (v := h 21 (rb_sub h m0)) K rfl (ma_t hty 4) md_B_acts_123 Nat.zero_lt_one (mi_vn (by omega) (by omega)) (by rw [mi_tn (by omega)]; rfl) ?_
        exact j3 _ (by first | contradiction | (unfold rb_x3; simp [h102, h111]; done))
      · refine mg_iconst K (v := 3) md_B_acts_114 (by decide) ?_
        refine mg_goto K 124 md_B_acts_115 rfl ?_
        exact j3 _ (by first | contradiction | (unfold rb_x3; simp [h102, h111]; done))
    · refine mg_iconst K (v := 1) md_B_acts_105 (by decide) ?_
      refine mg_goto K 124 md_B_acts_106 rfl ?_
      exact j3 _ (by first | contradiction | (unfold rb_x3; simp [h102]; done))
  have j1 : ∀ x, x = rb_x1 h m0 → mg_G p l e (mg_rm 1 0 0) s m args below meth c D mn_cl Z (mg_A ad (mr_C tys ma_sh ad (ma_R g (rb_R h o))) s.heap.size) s.heap 4 (MQ below (mg_Qc D mn_cl Z ad (mr_C tys ma_sh ad (ma_R g (rb_R h o))) s.heap.size (mg_Po tys ma_sh ad none (ma_R g (rb_R (rb_acts h m0) o)))) args s 0 0 (mg_A ad (mr_C tys ma_sh ad (ma_R g (rb_R h o))) s.heap.size)) ad (mr_C tys ma_sh ad (ma_R g (rb_R h o))) [some (va_rf (some (ad 20 0))), some (.int (Int32.ofNat m0)), some (.int (Int32.ofNat (rb_sub h m0))), some (.int (Int32.ofNat (rb_fn h m0)))] 0 0 [.int x, .int (Int32.ofNat m0), va_rf (some (ad 30 0))] 44 := by
    rintro x rfl
    refine mr_iast K rfl (ma_t hty 4) md_B_acts_44 Nat.zero_lt_one (mi_vn (by omega) (by omega)) ?_
    rw [mi_tn (by omega)]
    refine mr_eqr (rb_sI _ _ _ _ _ _ (by decide)) ?_
    refine mg_aload_n K md_B_acts_45 rfl ?_
    refine mr_getS (k2 := 22) (i2 := 0) K mf_B_13 md_B_acts_46 Nat.zero_lt_one rfl ?_
    refine mg_iload_n K md_B_acts_49 rfl ?_
    refine mg_iload_n K md_B_acts_50 rfl ?_
    refine mg_if_eq K 59 md_B_acts_51 rfl (fun h51 => ?_) (fun h51 => ?_)
    · refine mg_aload_n K md_B_acts_59 rfl ?_
      refine mr_getS (k2 := 28) (i2 := 0) K mf_B_32 md_B_acts_60 Nat.zero_lt_one rfl ?_
      refine mg_iload_n K md_B_acts_63 rfl ?_
      refine mr_iald (v := h 28 m0) K rfl (ma_t hty 4) md_B_acts_64 Nat.zero_lt_one (mi_vn (by omega) (by omega)) (by rw [mi_tn (by omega)]; rfl) ?_
      refine mg_goto K 95 md_B_acts_65 rfl ?_
      exact j2 _ (by first | contradiction | (unfold rb_x2; simp [h51]; done))
    · refine mg_iload_n K md_B_acts_54 rfl ?_
      refine mg_iconst K (v := 1) md_B_acts_55 (by decide) ?_
      refine mg_icmp_ne K 68 md_B_acts_56 rfl (fun h56 => ?_) (fun h56 => ?_)
      · refine mg_iload_n K md_B_acts_68 rfl ?_
        refine mg_iconst K (v := 2) md_B_acts_69 (by decide) ?_
        refine mg_icmp_ne K 89 md_B_acts_70 rfl (fun h70 => ?_) (fun h70 => ?_)
        · refine mg_aload_n K md_B_acts_89 rfl ?_
          refine mr_getS (k2 := 22) (i2 := 0) K mf_B_13 md_B_acts_90 Nat.zero_lt_one rfl ?_
          refine mg_iload_n K md_B_acts_93 rfl ?_
          refine mr_iald (v := h 22 (rb_sub h m0)) K rfl (ma_t hty 4) md_B_acts_94 Nat.zero_lt_one (mi_vn (by omega) (by omega)) (by rw [mi_tn (by omega)]; rfl) ?_
          exact j2 _ (by first | contradiction | (unfold rb_x2; simp [h51, h56, h70]; done))
        · refine mg_aload_n K md_B_acts_73 rfl ?_
          refine mr_getS (k2 := 22) (i2 := 0) K mf_B_13 md_B_acts_74 Nat.zero_lt_one rfl ?_
          refine mg_iload_n K md_B_acts_77 rfl ?_
          refine mr_iald (v := h 22 (rb_sub h m0)) K rfl (ma_t hty 4) md_B_acts_78 Nat.zero_lt_one (mi_vn (by omega) (by omega)) (by rw [mi_tn (by omega)]; rfl) ?_
          refine mg_aload_n K md_B_acts_79 rfl ?_
          refine mr_getS (k2 := 28) (i2 := 0) K mf_B_32 md_B_acts_80 Nat.zero_lt_one rfl ?_
          refine mg_iload_n K md_B_acts_83 rfl ?_
          refine mr_iald (v := h 28 m0) K rfl (ma_t hty 4) md_B_acts_84 Nat.zero_lt_one (mi_vn (by omega) (by omega)) (by rw [mi_tn (by omega)]; rfl) ?_
          refine mg_iadd K md_B_acts_85 ?_
          refine mg_goto K 95 md_B_acts_86 rfl ?_
          exact j2 _ (by first | contradiction | (unfold rb_x2; simp [h51, h56, h70]; done))
      · refine mg_aload_n K md_B_acts_59 rfl ?_
        refine mr_getS (k2 := 28) (i2 := 0) K mf_B_32 md_B_acts_60 Nat.zero_lt_one rfl ?_
        refine mg_iload_n K md_B_acts_63 rfl ?_
        refine mr_iald (v := h 28 m0) K rfl (ma_t hty 4) md_B_acts_64 Nat.zero_lt_one (mi_vn (by omega) (by omega)) (by rw [mi_tn (by omega)]; rfl) ?_
        refine mg_goto K 95 md_B_acts_65 rfl ?_
        exact j2 _ (by first | contradiction | (unfold rb_x2; simp [h51, h56]; done))
  refine mg_aload_n K md_B_acts_0 rfl ?_
  refine mr_getS (k2 := 27) (i2 := 0) K mf_B_29 md_B_acts_1 Nat.zero_lt_one rfl ?_
  refine mg_iload_n K md_B_acts_4 rfl ?_
  refine mr_iald (v := Int32.ofNat (rb_sub h m0)) K rfl (ma_t hty 4) md_B_acts_5 Nat.zero_lt_one (mi_vn (by omega) (by omega)) (by rw [mi_tn (by omega)]; exact hsu) ?_
  refine mg_istore_n K md_B_acts_6 (by decide) ?_
  refine mg_aload_n K md_B_acts_7 rfl ?_
  refine mr_getS (k2 := 26) (i2 := 0) K mf_B_26 md_B_acts_8 Nat.zero_lt_one rfl ?_
  refine mg_iload_n K md_B_acts_11 rfl ?_
  refine mr_iald (v := Int32.ofNat (rb_fn h m0)) K rfl (ma_t hty 4) md_B_acts_12 Nat.zero_lt_one (mi_vn (by omega) (by omega)) (by rw [mi_tn (by omega)]; exact hfu) ?_
  refine mg_istore_n K md_B_acts_13 (by decide) ?_
  refine mg_aload_n K md_B_acts_14 rfl ?_
  refine mr_getS (k2 := 30) (i2 := 0) K mf_B_38 md_B_acts_15 Nat.zero_lt_one rfl ?_
  refine mg_iload_n K md_B_acts_18 rfl ?_
  refine mg_iload_n K md_B_acts_19 rfl ?_
  refine mg_iconst K (v := 3) md_B_acts_20 (by decide) ?_
  refine mg_icmp_ne K 43 md_B_acts_21 rfl (fun h21 => ?_) (fun h21 => ?_)
  · refine mg_iconst K (v := 0) md_B_acts_43 (by decide) ?_
    exact j1 _ (by first | contradiction | (unfold rb_x1; simp [h21]; done))
  · refine mg_bipush K (v := 10) md_B_acts_24 (by decide) ?_
    refine mg_aload_n K md_B_acts_26 rfl ?_
    refine mr_getS (k2 := 22) (i2 := 0) K mf_B_13 md_B_acts_27 Nat.zero_lt_one rfl ?_
    refine mg_iload_n K md_B_acts_30 rfl ?_
    refine mr_iald (v := h 22 (rb_sub h m0)) K rfl (ma_t hty 4) md_B_acts_31 Nat.zero_lt_one (mi_vn (by omega) (by omega)) (by rw [mi_tn (by omega)]; rfl) ?_
    refine mg_imul K md_B_acts_32 ?_
    refine mg_aload_n K md_B_acts_33 rfl ?_
    refine mr_getS (k2 := 21) (i2 := 0) K mf_B_7 md_B_acts_34 Nat.zero_lt_one rfl ?_
    refine mg_iload_n K md_B_acts_37 rfl ?_
    refine mr_iald (v := h 21 (rb_sub h m0)) K rfl (ma_t hty 4) md_B_acts_38 Nat.zero_lt_one (mi_vn (by omega) (by omega)) (by rw [mi_tn (by omega)]; rfl) ?_
    refine mg_iadd K md_B_acts_39 ?_
    refine mg_goto K 44 md_B_acts_40 rfl ?_
    exact j1 _ (by first | contradiction | (unfold rb_x1; simp [h21]; done))
theorem ct_B_decides (hty : tys.map (·.2) = ma_ty) (g : ca_S) (h : rb_S) (o : Int64) {m0 : Nat} (hm : m0 < 96) (hrg : rb_rg h) {na nd : Nat} (hna : h 20 18 = Int32.ofNat na) (hn96 : na < 96) (hnd : h 20 20 = Int32.ofNat nd) (hd96 : nd < 96) : mr_M l my_B_decides mc_B_decides 4 (some .int) 3 D mn_cl Z mb_B tys ma_sh [va_rf (some (ad 20 0)), .int (Int32.ofNat m0)] ad (ma_R g (rb_R h o)) (some (.int (rb_dec h m0).2)) (ma_R g (rb_R (rb_dec h m0).1 o)) := by
  have hr0 := hrg m0 hm
  have hsu := hr0.1.1
  have hu := hr0.1.2
  have hfu := hr0.2.1
  have hf5 := hr0.2.2
  have htd : (h 20 20).toNatClampNeg = nd := by rw [hnd, mi_tn (by omega)]
  refine mg_M.of (cc := mc_B_decides) (maxL := 4) (ret := (some .int)) (by decide) rfl (Nat.le_of_ble_eq_true rfl) (mg_caS rfl (mg_caS rfl mg_ca0)) ?_
  intro p e s m args below meth c K hret hlk hnm hA
  refine mg_aload_n K md_B_decides_0 rfl ?_
  refine mg_iload_n K md_B_decides_1 rfl ?_
  refine mr_cV K hA (ct_B_rule hty g h o hm hrg) ms_B_83 (by decide) md_B_decides_2 rfl rfl Nat.zero_lt_one rfl (Nat.le_of_ble_eq_true rfl) ⟨Nat.zero_le _, Nat.zero_le _⟩ ?_
  refine mg_istore_n K md_B_decides_5 (by decide) ?_
  refine mg_iload_n K md_B_decides_6 rfl ?_
  refine mg_if_le K 17 md_B_decides_7 rfl (fun h7 => ?_) (fun h7 => ?_)
  · refine mg_aload_n K md_B_decides_17 rfl ?_
    refine mr_getS (k2 := 26) (i2 := 0) K mf_B_26 md_B_decides_18 Nat.zero_lt_one rfl ?_
    refine mg_iload_n K md_B_decides_21 rfl ?_
    refine mr_iald (v := Int32.ofNat (rb_fn h m0)) K rfl (ma_t hty 4) md_B_decides_22 Nat.zero_lt_one (mi_vn (by omega) (by omega)) (by rw [mi_tn (by omega)]; exact hfu) ?_
    refine mg_istore_n K md_B_decides_23 (by decide) ?_
    refine mg_iload_n K md_B_decides_24 rfl ?_
    refine mg_if_eq K 86 md_B_decides_25 rfl (fun h25 => ?_) (fun h25 => ?_)
    · have hw : ¬ (¬ Int32.ofNat (rb_fn h m0) = 0 ∧ ¬ Int32.ofNat (rb_fn h m0) = 3 ∧ h 21 (rb_sub h m0) = 0) := by simp [h25]
      refine mg_aload_n K md_B_decides_86 rfl ?_
      refine mr_getS (k2 := 35) (i2 := 0) K mf_B_53 md_B_decides_87 Nat.zero_lt_one rfl ?_
      refine mg_iload_n K md_B_decides_90 rfl ?_
      refine mr_zald (v := h 35 (rb_fn h m0)) K rfl (ma_t hty 2) md_B_decides_91 Nat.zero_lt_one (mi_vn (by omega) (by omega)) (by rw [mi_tn (by omega)]; rfl) ?_
      refine mg_if_eq K 180 md_B_decides_92 rfl (fun h92 => ?_) (fun h92 => ?_)
      · have hD : rb_dec h m0 = (rb_acts h m0, 1) := (if_neg (fun z => z h7)).trans ((if_neg hw).trans (if_neg (fun z => z h92)))
        refine mg_aload_n K md_B_decides_180 rfl ?_
        refine mg_iload_n K md_B_decides_181 rfl ?_
        refine mr_cV K hA (ct_B_acts hty g h o hm hrg hna hn96) ms_B_99 (by decide) md_B_decides_182 rfl rfl Nat.zero_lt_one rfl (Nat.le_of_ble_eq_true rfl) ⟨Nat.zero_le _, Nat.zero_le _⟩ ?_
        refine mg_iconst K (v := 1) md_B_decides_185 (by decide) ?_
        exact mg_iret K hret hlk md_B_decides_186 (Nat.le_refl _) (Nat.le_refl _) ⟨by rw [hD], rfl, by rw [hD]⟩
      · have hD : rb_dec h m0 = (rb_fails h m0, 5) := (if_neg (fun z => z h7)).trans ((if_neg hw).trans (if_pos h92))
        refine mg_aload_n K md_B_decides_95 rfl ?_
        refine mr_getS (k2 := 35) (i2 := 0) K mf_B_53 md_B_decides_96 Nat.zero_lt_one rfl ?_
        refine mg_iload_n K md_B_decides_99 rfl ?_
        refine mg_iconst K (v := 0) md_B_decides_100 (by decide) ?_
        refine mr_zast (v := 0) K rfl (ma_t hty 2) md_B_decides_101 Nat.zero_lt_one (mi_vn (by omega) (by omega)) (by decide) ?_
        rw [mi_tn (by omega)]
        refine mr_eqr (rb_sI _ _ _ _ _ _ (by decide)) ?_
        refine mg_aload_n K md_B_decides_102 rfl ?_
        refine mr_getS (k2 := 29) (i2 := 0) K mf_B_35 md_B_decides_103 Nat.zero_lt_one rfl ?_
        refine mg_iload_n K md_B_decides_106 rfl ?_
        refine mg_aload_n K md_B_decides_107 rfl ?_
        refine mr_getS (k2 := 33) (i2 := 0) K mf_B_47 md_B_decides_108 Nat.zero_lt_one rfl ?_
        refine mg_iload_n K md_B_decides_111 rfl ?_
        refine mr_zald (v := h 33 m0) K rfl (ma_t hty 2) md_B_decides_112 Nat.zero_lt_one (mi_vn (by omega) (by omega)) (by rw [mi_tn (by omega)]; rfl) ?_
        refine mg_if_eq K 120 md_B_decides_113 rfl (fun h113 => ?_) (fun h113 => ?_)
        · refine mg_iconst K (v := 4) md_B_decides_120 (by decide) ?_
          refine mr_iast K rfl (ma_t hty 4) md_B_decides_121 Nat.zero_lt_one (mi_vn (by omega) (by omega)) ?_
          rw [mi_tn (by omega)]
          refine mr_eqr (rb_sI _ _ _ _ _ _ (by decide)) ?_
          refine mg_aload_n K md_B_decides_122 rfl ?_
          refine mr_getS (k2 := 33) (i2 := 0) K mf_B_47 md_B_decides_123 Nat.zero_lt_one rfl ?_
          refine mg_iload_n K md_B_decides_126 rfl ?_
          refine mr_zald (v := h 33 m0) K rfl (ma_t hty 2) md_B_decides_127 Nat.zero_lt_one (mi_vn (by omega) (by omega)) (by rw [mi_tn (by omega)]; rfl) ?_
          refine mg_if_eq K 151 md_B_decides_128 rfl (fun h128 => ?_) (fun h128 => ?_)
          · refine mg_aload_n K md_B_decides_151 rfl ?_
            refine mr_getS (k2 := 33) (i2 := 0) K mf_B_47 md_B_decides_152 Nat.zero_lt_one rfl ?_
            refine mg_iload_n K md_B_decides_155 rfl ?_
            refine mg_iconst K (v := 1) md_B_decides_156 (by decide) ?_
            refine mr_zast (v := 1) K rfl (ma_t hty 2) md_B_decides_157 Nat.zero_lt_one (mi_vn (by omega) (by omega)) (by decide) ?_
            rw [mi_tn (by omega)]
            refine mr_eqr (rb_sI _ _ _ _ _ _ (by decide)) ?_
            refine mg_aload_n K md_B_decides_158 rfl ?_
            refine mr_getS (k2 := 34) (i2 := 0) K mf_B_50 md_B_decides_159 Nat.zero_lt_one rfl ?_
            refine mg_iload_n K md_B_decides_162 rfl ?_
            refine mg_aload_n K md_B_decides_163 rfl ?_
            refine mr_getI (v := h 20 16) K mf_B_93 md_B_decides_164 (by decide) Nat.zero_lt_one rfl ?_
            refine mr_iast K rfl (ma_t hty 4) md_B_decides_167 Nat.zero_lt_one (mi_vn (by omega) (by omega)) ?_
            rw [mi_tn (by omega)]
            refine mr_eqr (rb_sI _ _ _ _ _ _ (by decide)) ?_
            refine mg_aload_n K md_B_decides_168 rfl ?_
            refine mg_dup K md_B_decides_169 rfl ?_
            refine mr_getI (v := h 20 16) K mf_B_93 md_B_decides_170 (by decide) Nat.zero_lt_one rfl ?_
            refine mg_iconst K (v := 1) md_B_decides_173 (by decide) ?_
            refine mg_iadd K md_B_decides_174 ?_
            refine mr_putI K mf_B_93 md_B_decides_175 Nat.zero_lt_one ?_
            refine mr_eqr (rb_sI _ _ _ _ _ _ (by decide)) ?_
            refine mg_iconst K (v := 5) md_B_decides_178 (by decide) ?_
            exact mg_iret K hret hlk md_B_decides_179 (Nat.le_refl _) (Nat.le_refl _) ⟨by rw [hD], rfl, by first | contradiction | (rw [hD]; unfold rb_fails; rw [if_pos h113])⟩
          · refine mg_aload_n K md_B_decides_131 rfl ?_
            refine mr_getS (k2 := 37) (i2 := 0) K mf_B_59 md_B_decides_132 Nat.zero_lt_one rfl ?_
            refine mg_aload_n K md_B_decides_135 rfl ?_
            refine mr_getI (v := Int32.ofNat nd) K mf_B_96 md_B_decides_136 (by decide) Nat.zero_lt_one hnd ?_
            refine mg_iload_n K md_B_decides_139 rfl ?_
            refine mr_iast K rfl (ma_t hty 4) md_B_decides_140 Nat.zero_lt_one (mi_vn (by omega) (by omega)) ?_
            rw [mi_tn (by omega)]
            refine mr_eqr (rb_sI _ _ _ _ _ _ (by decide)) ?_
            refine mg_aload_n K md_B_decides_141 rfl ?_
            refine mg_dup K md_B_decides_142 rfl ?_
            refine mr_getI (v := Int32.ofNat nd) K mf_B_96 md_B_decides_143 (by decide) Nat.zero_lt_one hnd ?_
            refine mg_iconst K (v := 1) md_B_decides_146 (by decide) ?_
            refine mg_iadd K md_B_decides_147 ?_
            refine mr_putI K mf_B_96 md_B_decides_148 Nat.zero_lt_one ?_
            refine mr_eqr (rb_sI _ _ _ _ _ _ (by decide)) ?_
            refine mg_aload_n K md_B_decides_151 rfl ?_
            refine mr_getS (k2 := 33) (i2 := 0) K mf_B_47 md_B_decides_152 Nat.zero_lt_one rfl ?_
            refine mg_iload_n K md_B_decides_155 rfl ?_
            refine mg_iconst K (v := 1) md_B_decides_156 (by decide) ?_
            refine mr_zast (v := 1) K rfl (ma_t hty 2) md_B_decides_157 Nat.zero_lt_one (mi_vn (by omega) (by omega)) (by decide) ?_
            rw [mi_tn (by omega)]
            refine mr_eqr (rb_sI _ _ _ _ _ _ (by decide)) ?_
            refine mg_aload_n K md_B_decides_158 rfl ?_
            refine mr_getS (k2 := 34) (i2 := 0) K mf_B_50 md_B_decides_159 Nat.zero_lt_one rfl ?_
            refine mg_iload_n K md_B_decides_162 rfl ?_
            refine mg_aload_n K md_B_decides_163 rfl ?_
            refine mr_getI (v := h 20 16) K mf_B_93 md_B_decides_164 (by decide) Nat.zero_lt_one rfl ?_
            refine mr_iast K rfl (ma_t hty 4) md_B_decides_167 Nat.zero_lt_one (mi_vn (by omega) (by omega)) ?_
            rw [mi_tn (by omega)]
            refine mr_eqr (rb_sI _ _ _ _ _ _ (by decide)) ?_
            refine mg_aload_n K md_B_decides_168 rfl ?_
            refine mg_dup K md_B_decides_169 rfl ?_
            refine mr_getI (v := h 20 16) K mf_B_93 md_B_decides_170 (by decide) Nat.zero_lt_one rfl ?_
            refine mg_iconst K (v := 1) md_B_decides_173 (by decide) ?_
            refine mg_iadd K md_B_decides_174 ?_
            refine mr_putI K mf_B_93 md_B_decides_175 Nat.zero_lt_one ?_
            refine mr_eqr (rb_sI _ _ _ _ _ _ (by decide)) ?_
            refine mg_iconst K (v := 5) md_B_decides_178 (by decide) ?_
            exact mg_iret K hret hlk md_B_decides_179 (Nat.le_refl _) (Nat.le_refl _) ⟨by rw [hD], rfl, by first | contradiction | (rw [hD]; unfold rb_fails; rw [if_pos h113])⟩
        · refine mg_iconst K (v := 5) md_B_decides_116 (by decide) ?_
          refine mg_goto K 121 md_B_decides_117 rfl ?_
          refine mr_iast K rfl (ma_t hty 4) md_B_decides_121 Nat.zero_lt_one (mi_vn (by omega) (by omega)) ?_
          rw [mi_tn (by omega)]
          refine mr_eqr (rb_sI _ _ _ _ _ _ (by decide)) ?_
          refine mg_aload_n K md_B_decides_122 rfl ?_
          refine mr_getS (k2 := 33) (i2 := 0) K mf_B_47 md_B_decides_123 Nat.zero_lt_one rfl ?_
          refine mg_iload_n K md_B_decides_126 rfl ?_
          refine mr_zald (v := h 33 m0) K rfl (ma_t hty 2) md_B_decides_127 Nat.zero_lt_one (mi_vn (by omega) (by omega)) (by rw [mi_tn (by omega)]; rfl) ?_
          refine mg_if_eq K 151 md_B_decides_128 rfl (fun h128 => ?_) (fun h128 => ?_)
          · refine mg_aload_n K md_B_decides_151 rfl ?_
            refine mr_getS (k2 := 33) (i2 := 0) K mf_B_47 md_B_decides_152 Nat.zero_lt_one rfl ?_
            refine mg_iload_n K md_B_decides_155 rfl ?_
            refine mg_iconst K (v := 1) md_B_decides_156 (by decide) ?_
            refine mr_zast (v := 1) K rfl (ma_t hty 2) md_B_decides_157 Nat.zero_lt_one (mi_vn (by omega) (by omega)) (by decide) ?_
            rw [mi_tn (by omega)]
            refine mr_eqr (rb_sI _ _ _ _ _ _ (by decide)) ?_
            refine mg_aload_n K md_B_decides_158 rfl ?_
            refine mr_getS (k2 := 34) (i2 := 0) K mf_B_50 md_B_decides_159 Nat.zero_lt_one rfl ?_
            refine mg_iload_n K md_B_decides_162 rfl ?_
            refine mg_aload_n K md_B_decides_163 rfl ?_
            refine mr_getI (v := h 20 16) K mf_B_93 md_B_decides_164 (by decide) Nat.zero_lt_one rfl ?_
            refine mr_iast K rfl (ma_t hty 4) md_B_decides_167 Nat.zero_lt_one (mi_vn (by omega) (by omega)) ?_
            rw [mi_tn (by omega)]
            refine mr_eqr (rb_sI _ _ _ _ _ _ (by decide)) ?_
            refine mg_aload_n K md_B_decides_168 rfl ?_
            refine mg_dup K md_B_decides_169 rfl ?_
            refine mr_getI (v := h 20 16) K mf_B_93 md_B_decides_170 (by decide) Nat.zero_lt_one rfl ?_
            refine mg_iconst K (v := 1) md_B_decides_173 (by decide) ?_
            refine mg_iadd K md_B_decides_174 ?_
            refine mr_putI K mf_B_93 md_B_decides_175 Nat.zero_lt_one ?_
            refine mr_eqr (rb_sI _ _ _ _ _ _ (by decide)) ?_
            refine mg_iconst K (v := 5) md_B_decides_178 (by decide) ?_
            exact mg_iret K hret hlk md_B_decides_179 (Nat.le_refl _) (Nat.le_refl _) ⟨by rw [hD], rfl, by first | contradiction | (rw [hD]; unfold rb_fails; rw [if_neg h113, htd, hnd])⟩
          · refine mg_aload_n K md_B_decides_131 rfl ?_
            refine mr_getS (k2 := 37) (i2 := 0) K mf_B_59 md_B_decides_132 Nat.zero_lt_one rfl ?_
            refine mg_aload_n K md_B_decides_135 rfl ?_
            refine mr_getI (v := Int32.ofNat nd) K mf_B_96 md_B_decides_136 (by decide) Nat.zero_lt_one hnd ?_
            refine mg_iload_n K md_B_decides_139 rfl ?_
            refine mr_iast K rfl (ma_t hty 4) md_B_decides_140 Nat.zero_lt_one (mi_vn (by omega) (by omega)) ?_
            rw [mi_tn (by omega)]
            refine mr_eqr (rb_sI _ _ _ _ _ _ (by decide)) ?_
            refine mg_aload_n K md_B_decides_141 rfl ?_
            refine mg_dup K md_B_decides_142 rfl ?_
            refine mr_getI (v := Int32.ofNat nd) K mf_B_96 md_B_decides_143 (by decide) Nat.zero_lt_one hnd ?_
            refine mg_iconst K (v := 1) md_B_decides_146 (by decide) ?_
            refine mg_iadd K md_B_decides_147 ?_
            refine mr_putI K mf_B_96 md_B_decides_148 Nat.zero_lt_one ?_
            refine mr_eqr (rb_sI _ _ _ _ _ _ (by decide)) ?_
            refine mg_aload_n K md_B_decides_151 rfl ?_
            refine mr_getS (k2 := 33) (i2 := 0) K mf_B_47 md_B_decides_152 Nat.zero_lt_one rfl ?_
            refine mg_iload_n K md_B_decides_155 rfl ?_
            refine mg_iconst K (v := 1) md_B_decides_156 (by decide) ?_
            refine mr_zast (v := 1) K rfl (ma_t hty 2) md_B_decides_157 Nat.zero_lt_one (mi_vn (by omega) (by omega)) (by decide) ?_
            rw [mi_tn (by omega)]
            refine mr_eqr (rb_sI _ _ _ _ _ _ (by decide)) ?_
            refine mg_aload_n K md_B_decides_158 rfl ?_
            refine mr_getS (k2 := 34) (i2 := 0) K mf_B_50 md_B_decides_159 Nat.zero_lt_one rfl ?_
            refine mg_iload_n K md_B_decides_162 rfl ?_
            refine mg_aload_n K md_B_decides_163 rfl ?_
            refine mr_getI (v := h 20 16) K mf_B_93 md_B_decides_164 (by decide) Nat.zero_lt_one rfl ?_
            refine mr_iast K rfl (ma_t hty 4) md_B_decides_167 Nat.zero_lt_one (mi_vn (by omega) (by omega)) ?_
            rw [mi_tn (by omega)]
            refine mr_eqr (rb_sI _ _ _ _ _ _ (by decide)) ?_
            refine mg_aload_n K md_B_decides_168 rfl ?_
            refine mg_dup K md_B_decides_169 rfl ?_
            refine mr_getI (v := h 20 16) K mf_B_93 md_B_decides_170 (by decide) Nat.zero_lt_one rfl ?_
            refine mg_iconst K (v := 1) md_B_decides_173 (by decide) ?_
            refine mg_iadd K md_B_decides_174 ?_
            refine mr_putI K mf_B_93 md_B_decides_175 Nat.zero_lt_one ?_
            refine mr_eqr (rb_sI _ _ _ _ _ _ (by decide)) ?_
            refine mg_iconst K (v := 5) md_B_decides_178 (by decide) ?_
            exact mg_iret K hret hlk md_B_decides_179 (Nat.le_refl _) (Nat.le_refl _) ⟨by rw [hD], rfl, by first | contradiction | (rw [hD]; unfold rb_fails; rw [if_neg h113, htd, hnd])⟩
    · refine mg_iload_n K md_B_decides_28 rfl ?_
      refine mg_iconst K (v := 3) md_B_decides_29 (by decide) ?_
      refine mg_icmp_eq K 86 md_B_decides_30 rfl (fun h30 => ?_) (fun h30 => ?_)
      · have hw : ¬ (¬ Int32.ofNat (rb_fn h m0) = 0 ∧ ¬ Int32.ofNat (rb_fn h m0) = 3 ∧ h 21 (rb_sub h m0) = 0) := by simp [h25, h30]
        refine mg_aload_n K md_B_decides_86 rfl ?_
        refine mr_getS (k2 := 35) (i2 := 0) K mf_B_53 md_B_decides_87 Nat.zero_lt_one rfl ?_
        refine mg_iload_n K md_B_decides_90 rfl ?_
        refine mr_zald (v := h 35 (rb_fn h m0)) K rfl (ma_t hty 2) md_B_decides_91 Nat.zero_lt_one (mi_vn (by omega) (by omega)) (by rw [mi_tn (by omega)]; rfl) ?_
        refine mg_if_eq K 180 md_B_decides_92 rfl (fun h92 => ?_) (fun h92 => ?_)
        · have hD : rb_dec h m0 = (rb_acts h m0, 1) := (if_neg (fun z => z h7)).trans ((if_neg hw).trans (if_neg (fun z => z h92)))
          refine mg_aload_n K md_B_decides_180 rfl ?_
          refine mg_iload_n K md_B_decides_181 rfl ?_
          refine mr_cV K hA (ct_B_acts hty g h o hm hrg hna hn96) ms_B_99 (by decide) md_B_decides_182 rfl rfl Nat.zero_lt_one rfl (Nat.le_of_ble_eq_true rfl) ⟨Nat.zero_le _, Nat.zero_le _⟩ ?_
          refine mg_iconst K (v := 1) md_B_decides_185 (by decide) ?_
          exact mg_iret K hret hlk md_B_decides_186 (Nat.le_refl _) (Nat.le_refl _) ⟨by rw [hD], rfl, by rw [hD]⟩
        · have hD : rb_dec h m0 = (rb_fails h m0, 5) := (if_neg (fun z => z h7)).trans ((if_neg hw).trans (if_pos h92))
          refine mg_aload_n K md_B_decides_95 rfl ?_
          refine mr_getS (k2 := 35) (i2 := 0) K mf_B_53 md_B_decides_96 Nat.zero_lt_one rfl ?_
          refine mg_iload_n K md_B_decides_99 rfl ?_
          refine mg_iconst K (v := 0) md_B_decides_100 (by decide) ?_
          refine mr_zast (v := 0) K rfl (ma_t hty 2) md_B_decides_101 Nat.zero_lt_one (mi_vn (by omega) (by omega)) (by decide) ?_
          rw [mi_tn (by omega)]
          refine mr_eqr (rb_sI _ _ _ _ _ _ (by decide)) ?_
          refine mg_aload_n K md_B_decides_102 rfl ?_
          refine mr_getS (k2 := 29) (i2 := 0) K mf_B_35 md_B_decides_103 Nat.zero_lt_one rfl ?_
          refine mg_iload_n K md_B_decides_106 rfl ?_
          refine mg_aload_n K md_B_decides_107 rfl ?_
          refine mr_getS (k2 := 33) (i2 := 0) K mf_B_47 md_B_decides_108 Nat.zero_lt_one rfl ?_
          refine mg_iload_n K md_B_decides_111 rfl ?_
          refine mr_zald (v := h 33 m0) K rfl (ma_t hty 2) md_B_decides_112 Nat.zero_lt_one (mi_vn (by omega) (by omega)) (by rw [mi_tn (by omega)]; rfl) ?_
          refine mg_if_eq K 120 md_B_decides_113 rfl (fun h113 => ?_) (fun h113 => ?_)
          · refine mg_iconst K (v := 4) md_B_decides_120 (by decide) ?_
            refine mr_iast K rfl (ma_t hty 4) md_B_decides_121 Nat.zero_lt_one (mi_vn (by omega) (by omega)) ?_
            rw [mi_tn (by omega)]
            refine mr_eqr (rb_sI _ _ _ _ _ _ (by decide)) ?_
            refine mg_aload_n K md_B_decides_122 rfl ?_
            refine mr_getS (k2 := 33) (i2 := 0) K mf_B_47 md_B_decides_123 Nat.zero_lt_one rfl ?_
            refine mg_iload_n K md_B_decides_126 rfl ?_
            refine mr_zald (v := h 33 m0) K rfl (ma_t hty 2) md_B_decides_127 Nat.zero_lt_one (mi_vn (by omega) (by omega)) (by rw [mi_tn (by omega)]; rfl) ?_
            refine mg_if_eq K 151 md_B_decides_128 rfl (fun h128 => ?_) (fun h128 => ?_)
            · refine mg_aload_n K md_B_decides_151 rfl ?_
              refine mr_getS (k2 := 33) (i2 := 0) K mf_B_47 md_B_decides_152 Nat.zero_lt_one rfl ?_
              refine mg_iload_n K md_B_decides_155 rfl ?_
              refine mg_iconst K (v := 1) md_B_decides_156 (by decide) ?_
              refine mr_zast (v := 1) K rfl (ma_t hty 2) md_B_decides_157 Nat.zero_lt_one (mi_vn (by omega) (by omega)) (by decide) ?_
              rw [mi_tn (by omega)]
              refine mr_eqr (rb_sI _ _ _ _ _ _ (by decide)) ?_
              refine mg_aload_n K md_B_decides_158 rfl ?_
              refine mr_getS (k2 := 34) (i2 := 0) K mf_B_50 md_B_decides_159 Nat.zero_lt_one rfl ?_
              refine mg_iload_n K md_B_decides_162 rfl ?_
              refine mg_aload_n K md_B_decides_163 rfl ?_
              refine mr_getI (v := h 20 16) K mf_B_93 md_B_decides_164 (by decide) Nat.zero_lt_one rfl ?_
              refine mr_iast K rfl (ma_t hty 4) md_B_decides_167 Nat.zero_lt_one (mi_vn (by omega) (by omega)) ?_
              rw [mi_tn (by omega)]
              refine mr_eqr (rb_sI _ _ _ _ _ _ (by decide)) ?_
              refine mg_aload_n K md_B_decides_168 rfl ?_
              refine mg_dup K md_B_decides_169 rfl ?_
              refine mr_getI (v := h 20 16) K mf_B_93 md_B_decides_170 (by decide) Nat.zero_lt_one rfl ?_
              refine mg_iconst K (v := 1) md_B_decides_173 (by decide) ?_
              refine mg_iadd K md_B_decides_174 ?_
              refine mr_putI K mf_B_93 md_B_decides_175 Nat.zero_lt_one ?_
              refine mr_eqr (rb_sI _ _ _ _ _ _ (by decide)) ?_
              refine mg_iconst K (v := 5) md_B_decides_178 (by decide) ?_
              exact mg_iret K hret hlk md_B_decides_179 (Nat.le_refl _) (Nat.le_refl _) ⟨by rw [hD], rfl, by first | contradiction | (rw [hD]; unfold rb_fails; rw [if_pos h113])⟩
            · refine mg_aload_n K md_B_decides_131 rfl ?_
              refine mr_getS (k2 := 37) (i2 := 0) K mf_B_59 md_B_decides_132 Nat.zero_lt_one rfl ?_
              refine mg_aload_n K md_B_decides_135 rfl ?_
              refine mr_getI (v := Int32.ofNat nd) K mf_B_96 md_B_decides_136 (by decide) Nat.zero_lt_one hnd ?_
              refine mg_iload_n K md_B_decides_139 rfl ?_
              refine mr_iast K rfl (ma_t hty 4) md_B_decides_140 Nat.zero_lt_one (mi_vn (by omega) (by omega)) ?_
              rw [mi_tn (by omega)]
              refine mr_eqr (rb_sI _ _ _ _ _ _ (by decide)) ?_
              refine mg_aload_n K md_B_decides_141 rfl ?_
              refine mg_dup K md_B_decides_142 rfl ?_
              refine mr_getI (v := Int32.ofNat nd) K mf_B_96 md_B_decides_143 (by decide) Nat.zero_lt_one hnd ?_
              refine mg_iconst K (v := 1) md_B_decides_146 (by decide) ?_
              refine mg_iadd K md_B_decides_147 ?_
              refine mr_putI K mf_B_96 md_B_decides_148 Nat.zero_lt_one ?_
              refine mr_eqr (rb_sI _ _ _ _ _ _ (by decide)) ?_
              refine mg_aload_n K md_B_decides_151 rfl ?_
              refine mr_getS (k2 := 33) (i2 := 0) K mf_B_47 md_B_decides_152 Nat.zero_lt_one rfl ?_
              refine mg_iload_n K md_B_decides_155 rfl ?_
              refine mg_iconst K (v := 1) md_B_decides_156 (by decide) ?_
              refine mr_zast (v := 1) K rfl (ma_t hty 2) md_B_decides_157 Nat.zero_lt_one (mi_vn (by omega) (by omega)) (by decide) ?_
              rw [mi_tn (by omega)]
              refine mr_eqr (rb_sI _ _ _ _ _ _ (by decide)) ?_
              refine mg_aload_n K md_B_decides_158 rfl ?_
              refine mr_getS (k2 := 34) (i2 := 0) K mf_B_50 md_B_decides_159 Nat.zero_lt_one rfl ?_
              refine mg_iload_n K md_B_decides_162 rfl ?_
              refine mg_aload_n K md_B_decides_163 rfl ?_
              refine mr_getI (v := h 20 16) K mf_B_93 md_B_decides_164 (by decide) Nat.zero_lt_one rfl ?_
              refine mr_iast K rfl (ma_t hty 4) md_B_decides_167 Nat.zero_lt_one (mi_vn (by omega) (by omega)) ?_
              rw [mi_tn (by omega)]
              refine mr_eqr (rb_sI _ _ _ _ _ _ (by decide)) ?_
              refine mg_aload_n K md_B_decides_168 rfl ?_
              refine mg_dup K md_B_decides_169 rfl ?_
              refine mr_getI (v := h 20 16) K mf_B_93 md_B_decides_170 (by decide) Nat.zero_lt_one rfl ?_
              refine mg_iconst K (v := 1) md_B_decides_173 (by decide) ?_
              refine mg_iadd K md_B_decides_174 ?_
              refine mr_putI K mf_B_93 md_B_decides_175 Nat.zero_lt_one ?_
              refine mr_eqr (rb_sI _ _ _ _ _ _ (by decide)) ?_
              refine mg_iconst K (v := 5) md_B_decides_178 (by decide) ?_
              exact mg_iret K hret hlk md_B_decides_179 (Nat.le_refl _) (Nat.le_refl _) ⟨by rw [hD], rfl, by first | contradiction | (rw [hD]; unfold rb_fails; rw [if_pos h113])⟩
          · refine mg_iconst K (v := 5) md_B_decides_116 (by decide) ?_
            refine mg_goto K 121 md_B_decides_117 rfl ?_
            refine mr_iast K rfl (ma_t hty 4) md_B_decides_121 Nat.zero_lt_one (mi_vn (by omega) (by omega)) ?_
            rw [mi_tn (by omega)]
            refine mr_eqr (rb_sI _ _ _ _ _ _ (by decide)) ?_
            refine mg_aload_n K md_B_decides_122 rfl ?_
            refine mr_getS (k2 := 33) (i2 := 0) K mf_B_47 md_B_decides_123 Nat.zero_lt_one rfl ?_
            refine mg_iload_n K md_B_decides_126 rfl ?_
            refine mr_zald (v := h 33 m0) K rfl (ma_t hty 2) md_B_decides_127 Nat.zero_lt_one (mi_vn (by omega) (by omega)) (by rw [mi_tn (by omega)]; rfl) ?_
            refine mg_if_eq K 151 md_B_decides_128 rfl (fun h128 => ?_) (fun h128 => ?_)
            · refine mg_aload_n K md_B_decides_151 rfl ?_
              refine mr_getS (k2 := 33) (i2 := 0) K mf_B_47 md_B_decides_152 Nat.zero_lt_one rfl ?_
              refine mg_iload_n K md_B_decides_155 rfl ?_
              refine mg_iconst K (v := 1) md_B_decides_156 (by decide) ?_
              refine mr_zast (v := 1) K rfl (ma_t hty 2) md_B_decides_157 Nat.zero_lt_one (mi_vn (by omega) (by omega)) (by decide) ?_
              rw [mi_tn (by omega)]
              refine mr_eqr (rb_sI _ _ _ _ _ _ (by decide)) ?_
              refine mg_aload_n K md_B_decides_158 rfl ?_
              refine mr_getS (k2 := 34) (i2 := 0) K mf_B_50 md_B_decides_159 Nat.zero_lt_one rfl ?_
              refine mg_iload_n K md_B_decides_162 rfl ?_
              refine mg_aload_n K md_B_decides_163 rfl ?_
              refine mr_getI (v := h 20 16) K mf_B_93 md_B_decides_164 (by decide) Nat.zero_lt_one rfl ?_
              refine mr_iast K rfl (ma_t hty 4) md_B_decides_167 Nat.zero_lt_one (mi_vn (by omega) (by omega)) ?_
              rw [mi_tn (by omega)]
              refine mr_eqr (rb_sI _ _ _ _ _ _ (by decide)) ?_
              refine mg_aload_n K md_B_decides_168 rfl ?_
              refine mg_dup K md_B_decides_169 rfl ?_
              refine mr_getI (v := h 20 16) K mf_B_93 md_B_decides_170 (by decide) Nat.zero_lt_one rfl ?_
              refine mg_iconst K (v := 1) md_B_decides_173 (by decide) ?_
              refine mg_iadd K md_B_decides_174 ?_
              refine mr_putI K mf_B_93 md_B_decides_175 Nat.zero_lt_one ?_
              refine mr_eqr (rb_sI _ _ _ _ _ _ (by decide)) ?_
              refine mg_iconst K (v := 5) md_B_decides_178 (by decide) ?_
              exact mg_iret K hret hlk md_B_decides_179 (Nat.le_refl _) (Nat.le_refl _) ⟨by rw [hD], rfl, by first | contradiction | (rw [hD]; unfold rb_fails; rw [if_neg h113, htd, hnd])⟩
            · refine mg_aload_n K md_B_decides_131 rfl ?_
              refine mr_getS (k2 := 37) (i2 := 0) K mf_B_59 md_B_decides_132 Nat.zero_lt_one rfl ?_
              refine mg_aload_n K md_B_decides_135 rfl ?_
              refine mr_getI (v := Int32.ofNat nd) K mf_B_96 md_B_decides_136 (by decide) Nat.zero_lt_one hnd ?_
              refine mg_iload_n K md_B_decides_139 rfl ?_
              refine mr_iast K rfl (ma_t hty 4) md_B_decides_140 Nat.zero_lt_one (mi_vn (by omega) (by omega)) ?_
              rw [mi_tn (by omega)]
              refine mr_eqr (rb_sI _ _ _ _ _ _ (by decide)) ?_
              refine mg_aload_n K md_B_decides_141 rfl ?_
              refine mg_dup K md_B_decides_142 rfl ?_
              refine mr_getI (v := Int32.ofNat nd) K mf_B_96 md_B_decides_143 (by decide) Nat.zero_lt_one hnd ?_
              refine mg_iconst K (v := 1) md_B_decides_146 (by decide) ?_
              refine mg_iadd K md_B_decides_147 ?_
              refine mr_putI K mf_B_96 md_B_decides_148 Nat.zero_lt_one ?_
              refine mr_eqr (rb_sI _ _ _ _ _ _ (by decide)) ?_
              refine mg_aload_n K md_B_decides_151 rfl ?_
              refine mr_getS (k2 := 33) (i2 := 0) K mf_B_47 md_B_decides_152 Nat.zero_lt_one rfl ?_
              refine mg_iload_n K md_B_decides_155 rfl ?_
              refine mg_iconst K (v := 1) md_B_decides_156 (by decide) ?_
              refine mr_zast (v := 1) K rfl (ma_t hty 2) md_B_decides_157 Nat.zero_lt_one (mi_vn (by omega) (by omega)) (by decide) ?_
              rw [mi_tn (by omega)]
              refine mr_eqr (rb_sI _ _ _ _ _ _ (by decide)) ?_
              refine mg_aload_n K md_B_decides_158 rfl ?_
              refine mr_getS (k2 := 34) (i2 := 0) K mf_B_50 md_B_decides_159 Nat.zero_lt_one rfl ?_
              refine mg_iload_n K md_B_decides_162 rfl ?_
              refine mg_aload_n K md_B_decides_163 rfl ?_
              refine mr_getI (v := h 20 16) K mf_B_93 md_B_decides_164 (by decide) Nat.zero_lt_one rfl ?_
              refine mr_iast K rfl (ma_t hty 4) md_B_decides_167 Nat.zero_lt_one (mi_vn (by omega) (by omega)) ?_
              rw [mi_tn (by omega)]
              refine mr_eqr (rb_sI _ _ _ _ _ _ (by decide)) ?_
              refine mg_aload_n K md_B_decides_168 rfl ?_
              refine mg_dup K md_B_decides_169 rfl ?_
              refine mr_getI (v := h 20 16) K mf_B_93 md_B_decides_170 (by decide) Nat.zero_lt_one rfl ?_
              refine mg_iconst K (v := 1) md_B_decides_173 (by decide) ?_
              refine mg_iadd K md_B_decides_174 ?_
              refine mr_putI K mf_B_93 md_B_decides_175 Nat.zero_lt_one ?_
              refine mr_eqr (rb_sI _ _ _ _ _ _ (by decide)) ?_
              refine mg_iconst K (v := 5) md_B_decides_178 (by decide) ?_
              exact mg_iret K hret hlk md_B_decides_179 (Nat.le_refl _) (Nat.le_refl _) ⟨by rw [hD], rfl, by first | contradiction | (rw [hD]; unfold rb_fails; rw [if_neg h113, htd, hnd])⟩
      · refine mg_aload_n K md_B_decides_33 rfl ?_
        refine mr_getS (k2 := 21) (i2 := 0) K mf_B_7 md_B_decides_34 Nat.zero_lt_one rfl ?_
        refine mg_aload_n K md_B_decides_37 rfl ?_
        refine mr_getS (k2 := 27) (i2 := 0) K mf_B_29 md_B_decides_38 Nat.zero_lt_one rfl ?_
        refine mg_iload_n K md_B_decides_41 rfl ?_
        refine mr_iald (v := Int32.ofNat (rb_sub h m0)) K rfl (ma_t hty 4) md_B_decides_42 Nat.zero_lt_one (mi_vn (by omega) (by omega)) (by rw [mi_tn (by omega)]; exact hsu) ?_
        refine mr_iald (v := h 21 (rb_sub h m0)) K rfl (ma_t hty 4) md_B_decides_43 Nat.zero_lt_one (mi_vn (by omega) (by omega)) (by rw [mi_tn (by omega)]; rfl) ?_
        refine mg_if_ne K 86 md_B_decides_44 rfl (fun h44 => ?_) (fun h44 => ?_)
        · have hw : ¬ (¬ Int32.ofNat (rb_fn h m0) = 0 ∧ ¬ Int32.ofNat (rb_fn h m0) = 3 ∧ h 21 (rb_sub h m0) = 0) := by simp [h25, h30, h44]
          refine mg_aload_n K md_B_decides_86 rfl ?_
          refine mr_getS (k2 := 35) (i2 := 0) K mf_B_53 md_B_decides_87 Nat.zero_lt_one rfl ?_
          refine mg_iload_n K md_B_decides_90 rfl ?_
          refine mr_zald (v := h 35 (rb_fn h m0)) K rfl (ma_t hty 2) md_B_decides_91 Nat.zero_lt_one (mi_vn (by omega) (by omega)) (by rw [mi_tn (by omega)]; rfl) ?_
          refine mg_if_eq K 180 md_B_decides_92 rfl (fun h92 => ?_) (fun h92 => ?_)
          · have hD : rb_dec h m0 = (rb_acts h m0, 1) := (if_neg (fun z => z h7)).trans ((if_neg hw).trans (if_neg (fun z => z h92)))
            refine mg_aload_n K md_B_decides_180 rfl ?_
            refine mg_iload_n K md_B_decides_181 rfl ?_
            refine mr_cV K hA (ct_B_acts hty g h o hm hrg hna hn96) ms_B_99 (by decide) md_B_decides_182 rfl rfl Nat.zero_lt_one rfl (Nat.le_of_ble_eq_true rfl) ⟨Nat.zero_le _, Nat.zero_le _⟩ ?_
            refine mg_iconst K (v := 1) md_B_decides_185 (by decide) ?_
            exact mg_iret K hret hlk md_B_decides_186 (Nat.le_refl _) (Nat.le_refl _) ⟨by rw [hD], rfl, by rw [hD]⟩
          · have hD : rb_dec h m0 = (rb_fails h m0, 5) := (if_neg (fun z => z h7)).trans ((if_neg hw).trans (if_pos h92))
            refine mg_aload_n K md_B_decides_95 rfl ?_
            refine mr_getS (k2 := 35) (i2 := 0) K mf_B_53 md_B_decides_96 Nat.zero_lt_one rfl ?_
            refine mg_iload_n K md_B_decides_99 rfl ?_
            refine mg_iconst K (v := 0) md_B_decides_100 (by decide) ?_
            refine mr_zast (v := 0) K rfl (ma_t hty 2) md_B_decides_101 Nat.zero_lt_one (mi_vn (by omega) (by omega)) (by decide) ?_
            rw [mi_tn (by omega)]
            refine mr_eqr (rb_sI _ _ _ _ _ _ (by decide)) ?_
            refine mg_aload_n K md_B_decides_102 rfl ?_
            refine mr_getS (k2 := 29) (i2 := 0) K mf_B_35 md_B_decides_103 Nat.zero_lt_one rfl ?_
            refine mg_iload_n K md_B_decides_106 rfl ?_
            refine mg_aload_n K md_B_decides_107 rfl ?_
            refine mr_getS (k2 := 33) (i2 := 0) K mf_B_47 md_B_decides_108 Nat.zero_lt_one rfl ?_
            refine mg_iload_n K md_B_decides_111 rfl ?_
            refine mr_zald (v := h 33 m0) K rfl (ma_t hty 2) md_B_decides_112 Nat.zero_lt_one (mi_vn (by omega) (by omega)) (by rw [mi_tn (by omega)]; rfl) ?_
            refine mg_if_eq K 120 md_B_decides_113 rfl (fun h113 => ?_) (fun h113 => ?_)
            · refine mg_iconst K (v := 4) md_B_decides_120 (by decide) ?_
              refine mr_iast K rfl (ma_t hty 4) md_B_decides_121 Nat.zero_lt_one (mi_vn (by omega) (by omega)) ?_
              rw [mi_tn (by omega)]
              refine mr_eqr (rb_sI _ _ _ _ _ _ (by decide)) ?_
              refine mg_aload_n K md_B_decides_122 rfl ?_
              refine mr_getS (k2 := 33) (i2 := 0) K mf_B_47 md_B_decides_123 Nat.zero_lt_one rfl ?_
              refine mg_iload_n K md_B_decides_126 rfl ?_
              refine mr_zald (v := h 33 m0) K rfl (ma_t hty 2) md_B_decides_127 Nat.zero_lt_one (mi_vn (by omega) (by omega)) (by rw [mi_tn (by omega)]; rfl) ?_
              refine mg_if_eq K 151 md_B_decides_128 rfl (fun h128 => ?_) (fun h128 => ?_)
              · refine mg_aload_n K md_B_decides_151 rfl ?_
                refine mr_getS (k2 := 33) (i2 := 0) K mf_B_47 md_B_decides_152 Nat.zero_lt_one rfl ?_
                refine mg_iload_n K md_B_decides_155 rfl ?_
                refine mg_iconst K (v := 1) md_B_decides_156 (by decide) ?_
                refine mr_zast (v := 1) K rfl (ma_t hty 2) md_B_decides_157 Nat.zero_lt_one (mi_vn (by omega) (by omega)) (by decide) ?_
                rw [mi_tn (by omega)]
                refine mr_eqr (rb_sI _ _ _ _ _ _ (by decide)) ?_
                refine mg_aload_n K md_B_decides_158 rfl ?_
                refine mr_getS (k2 := 34) (i2 := 0) K mf_B_50 md_B_decides_159 Nat.zero_lt_one rfl ?_
                refine mg_iload_n K md_B_decides_162 rfl ?_
                refine mg_aload_n K md_B_decides_163 rfl ?_
                refine mr_getI (v := h 20 16) K mf_B_93 md_B_decides_164 (by decide) Nat.zero_lt_one rfl ?_
                refine mr_iast K rfl (ma_t hty 4) md_B_decides_167 Nat.zero_lt_one (mi_vn (by omega) (by omega)) ?_
                rw [mi_tn (by omega)]
                refine mr_eqr (rb_sI _ _ _ _ _ _ (by decide)) ?_
                refine mg_aload_n K md_B_decides_168 rfl ?_
                refine mg_dup K md_B_decides_169 rfl ?_
                refine mr_getI (v := h 20 16) K mf_B_93 md_B_decides_170 (by decide) Nat.zero_lt_one rfl ?_
                refine mg_iconst K (v := 1) md_B_decides_173 (by decide) ?_
                refine mg_iadd K md_B_decides_174 ?_
                refine mr_putI K mf_B_93 md_B_decides_175 Nat.zero_lt_one ?_
                refine mr_eqr (rb_sI _ _ _ _ _ _ (by decide)) ?_
                refine mg_iconst K (v := 5) md_B_decides_178 (by decide) ?_
                exact mg_iret K hret hlk md_B_decides_179 (Nat.le_refl _) (Nat.le_refl _) ⟨by rw [hD], rfl, by first | contradiction | (rw [hD]; unfold rb_fails; rw [if_pos h113])⟩
              · refine mg_aload_n K md_B_decides_131 rfl ?_
                refine mr_getS (k2 := 37) (i2 := 0) K mf_B_59 md_B_decides_132 Nat.zero_lt_one rfl ?_
                refine mg_aload_n K md_B_decides_135 rfl ?_
                refine mr_getI (v := Int32.ofNat nd) K mf_B_96 md_B_decides_136 (by decide) Nat.zero_lt_one hnd ?_
                refine mg_iload_n K md_B_decides_139 rfl ?_
                refine mr_iast K rfl (ma_t hty 4) md_B_decides_140 Nat.zero_lt_one (mi_vn (by omega) (by omega)) ?_
                rw [mi_tn (by omega)]
                refine mr_eqr (rb_sI _ _ _ _ _ _ (by decide)) ?_
                refine mg_aload_n K md_B_decides_141 rfl ?_
                refine mg_dup K md_B_decides_142 rfl ?_
                refine mr_getI (v := Int32.ofNat nd) K mf_B_96 md_B_decides_143 (by decide) Nat.zero_lt_one hnd ?_
                refine mg_iconst K (v := 1) md_B_decides_146 (by decide) ?_
                refine mg_iadd K md_B_decides_147 ?_
                refine mr_putI K mf_B_96 md_B_decides_148 Nat.zero_lt_one ?_
                refine mr_eqr (rb_sI _ _ _ _ _ _ (by decide)) ?_
                refine mg_aload_n K md_B_decides_151 rfl ?_
                refine mr_getS (k2 := 33) (i2 := 0) K mf_B_47 md_B_decides_152 Nat.zero_lt_one rfl ?_
                refine mg_iload_n K md_B_decides_155 rfl ?_
                refine mg_iconst K (v := 1) md_B_decides_156 (by decide) ?_
                refine mr_zast (v := 1) K rfl (ma_t hty 2) md_B_decides_157 Nat.zero_lt_one (mi_vn (by omega) (by omega)) (by decide) ?_
                rw [mi_tn (by omega)]
                refine mr_eqr (rb_sI _ _ _ _ _ _ (by decide)) ?_
                refine mg_aload_n K md_B_decides_158 rfl ?_
                refine mr_getS (k2 := 34) (i2 := 0) K mf_B_50 md_B_decides_159 Nat.zero_lt_one rfl ?_
                refine mg_iload_n K md_B_decides_162 rfl ?_
                refine mg_aload_n K md_B_decides_163 rfl ?_
                refine mr_getI (v := h 20 16) K mf_B_93 md_B_decides_164 (by decide) Nat.zero_lt_one rfl ?_
                refine mr_iast K rfl (ma_t hty 4) md_B_decides_167 Nat.zero_lt_one (mi_vn (by omega) (by omega)) ?_
                rw [mi_tn (by omega)]
                refine mr_eqr (rb_sI _ _ _ _ _ _ (by decide)) ?_
                refine mg_aload_n K md_B_decides_168 rfl ?_
                refine mg_dup K md_B_decides_169 rfl ?_
                refine mr_getI (v := h 20 16) K mf_B_93 md_B_decides_170 (by decide) Nat.zero_lt_one rfl ?_
                refine mg_iconst K (v := 1) md_B_decides_173 (by decide) ?_
                refine mg_iadd K md_B_decides_174 ?_
                refine mr_putI K mf_B_93 md_B_decides_175 Nat.zero_lt_one ?_
                refine mr_eqr (rb_sI _ _ _ _ _ _ (by decide)) ?_
                refine mg_iconst K (v := 5) md_B_decides_178 (by decide) ?_
                exact mg_iret K hret hlk md_B_decides_179 (Nat.le_refl _) (Nat.le_refl _) ⟨by rw [hD], rfl, by first | contradiction | (rw [hD]; unfold rb_fails; rw [if_pos h113])⟩
            · refine mg_iconst K (v := 5) md_B_decides_116 (by decide) ?_
              refine mg_goto K 121 md_B_decides_117 rfl ?_
              refine mr_iast K rfl (ma_t hty 4) md_B_decides_121 Nat.zero_lt_one (mi_vn (by omega) (by omega)) ?_
              rw [mi_tn (by omega)]
              refine mr_eqr (rb_sI _ _ _ _ _ _ (by decide)) ?_
              refine mg_aload_n K md_B_decides_122 rfl ?_
              refine mr_getS (k2 := 33) (i2 := 0) K mf_B_47 md_B_decides_123 Nat.zero_lt_one rfl ?_
              refine mg_iload_n K md_B_decides_126 rfl ?_
              refine mr_zald (v := h 33 m0) K rfl (ma_t hty 2) md_B_decides_127 Nat.zero_lt_one (mi_vn (by omega) (by omega)) (by rw [mi_tn (by omega)]; rfl) ?_
              refine mg_if_eq K 151 md_B_decides_128 rfl (fun h128 => ?_) (fun h128 => ?_)
              · refine mg_aload_n K md_B_decides_151 rfl ?_
                refine mr_getS (k2 := 33) (i2 := 0) K mf_B_47 md_B_decides_152 Nat.zero_lt_one rfl ?_
                refine mg_iload_n K md_B_decides_155 rfl ?_
                refine mg_iconst K (v := 1) md_B_decides_156 (by decide) ?_
                refine mr_zast (v := 1) K rfl (ma_t hty 2) md_B_decides_157 Nat.zero_lt_one (mi_vn (by omega) (by omega)) (by decide) ?_
                rw [mi_tn (by omega)]
                refine mr_eqr (rb_sI _ _ _ _ _ _ (by decide)) ?_
                refine mg_aload_n K md_B_decides_158 rfl ?_
                refine mr_getS (k2 := 34) (i2 := 0) K mf_B_50 md_B_decides_159 Nat.zero_lt_one rfl ?_
                refine mg_iload_n K md_B_decides_162 rfl ?_
                refine mg_aload_n K md_B_decides_163 rfl ?_
                refine mr_getI (v := h 20 16) K mf_B_93 md_B_decides_164 (by decide) Nat.zero_lt_one rfl ?_
                refine mr_iast K rfl (ma_t hty 4) md_B_decides_167 Nat.zero_lt_one (mi_vn (by omega) (by omega)) ?_
                rw [mi_tn (by omega)]
                refine mr_eqr (rb_sI _ _ _ _ _ _ (by decide)) ?_
                refine mg_aload_n K md_B_decides_168 rfl ?_
                refine mg_dup K md_B_decides_169 rfl ?_
                refine mr_getI (v := h 20 16) K mf_B_93 md_B_decides_170 (by decide) Nat.zero_lt_one rfl ?_
                refine mg_iconst K (v := 1) md_B_decides_173 (by decide) ?_
                refine mg_iadd K md_B_decides_174 ?_
                refine mr_putI K mf_B_93 md_B_decides_175 Nat.zero_lt_one ?_
                refine mr_eqr (rb_sI _ _ _ _ _ _ (by decide)) ?_
                refine mg_iconst K (v := 5) md_B_decides_178 (by decide) ?_
                exact mg_iret K hret hlk md_B_decides_179 (Nat.le_refl _) (Nat.le_refl _) ⟨by rw [hD], rfl, by first | contradiction | (rw [hD]; unfold rb_fails; rw [if_neg h113, htd, hnd])⟩
              · refine mg_aload_n K md_B_decides_131 rfl ?_
                refine mr_getS (k2 := 37) (i2 := 0) K mf_B_59 md_B_decides_132 Nat.zero_lt_one rfl ?_
                refine mg_aload_n K md_B_decides_135 rfl ?_
                refine mr_getI (v := Int32.ofNat nd) K mf_B_96 md_B_decides_136 (by decide) Nat.zero_lt_one hnd ?_
                refine mg_iload_n K md_B_decides_139 rfl ?_
                refine mr_iast K rfl (ma_t hty 4) md_B_decides_140 Nat.zero_lt_one (mi_vn (by omega) (by omega)) ?_
                rw [mi_tn (by omega)]
                refine mr_eqr (rb_sI _ _ _ _ _ _ (by decide)) ?_
                refine mg_aload_n K md_B_decides_141 rfl ?_
                refine mg_dup K md_B_decides_142 rfl ?_
                refine mr_getI (v := Int32.ofNat nd) K mf_B_96 md_B_decides_143 (by decide) Nat.zero_lt_one hnd ?_
                refine mg_iconst K (v := 1) md_B_decides_146 (by decide) ?_
                refine mg_iadd K md_B_decides_147 ?_
                refine mr_putI K mf_B_96 md_B_decides_148 Nat.zero_lt_one ?_
                refine mr_eqr (rb_sI _ _ _ _ _ _ (by decide)) ?_
                refine mg_aload_n K md_B_decides_151 rfl ?_
                refine mr_getS (k2 := 33) (i2 := 0) K mf_B_47 md_B_decides_152 Nat.zero_lt_one rfl ?_
                refine mg_iload_n K md_B_decides_155 rfl ?_
                refine mg_iconst K (v := 1) md_B_decides_156 (by decide) ?_
                refine mr_zast (v := 1) K rfl (ma_t hty 2) md_B_decides_157 Nat.zero_lt_one (mi_vn (by omega) (by omega)) (by decide) ?_
                rw [mi_tn (by omega)]
                refine mr_eqr (rb_sI _ _ _ _ _ _ (by decide)) ?_
                refine mg_aload_n K md_B_decides_158 rfl ?_
                refine mr_getS (k2 := 34) (i2 := 0) K mf_B_50 md_B_decides_159 Nat.zero_lt_one rfl ?_
                refine mg_iload_n K md_B_decides_162 rfl ?_
                refine mg_aload_n K md_B_decides_163 rfl ?_
                refine mr_getI (v := h 20 16) K mf_B_93 md_B_decides_164 (by decide) Nat.zero_lt_one rfl ?_
                refine mr_iast K rfl (ma_t hty 4) md_B_decides_167 Nat.zero_lt_one (mi_vn (by omega) (by omega)) ?_
                rw [mi_tn (by omega)]
                refine mr_eqr (rb_sI _ _ _ _ _ _ (by decide)) ?_
                refine mg_aload_n K md_B_decides_168 rfl ?_
                refine mg_dup K md_B_decides_169 rfl ?_
                refine mr_getI (v := h 20 16) K mf_B_93 md_B_decides_170 (by decide) Nat.zero_lt_one rfl ?_
                refine mg_iconst K (v := 1) md_B_decides_173 (by decide) ?_
                refine mg_iadd K md_B_decides_174 ?_
                refine mr_putI K mf_B_93 md_B_decides_175 Nat.zero_lt_one ?_
                refine mr_eqr (rb_sI _ _ _ _ _ _ (by decide)) ?_
                refine mg_iconst K (v := 5) md_B_decides_178 (by decide) ?_
                exact mg_iret K hret hlk md_B_decides_179 (Nat.le_refl _) (Nat.le_refl _) ⟨by rw [hD], rfl, by first | contradiction | (rw [hD]; unfold rb_fails; rw [if_neg h113, htd, hnd])⟩
        · refine mg_aload_n K md_B_decides_47 rfl ?_
          refine mr_getS (k2 := 29) (i2 := 0) K mf_B_35 md_B_decides_48 Nat.zero_lt_one rfl ?_
          refine mg_iload_n K md_B_decides_51 rfl ?_
          refine mg_iconst K (v := 3) md_B_decides_52 (by decide) ?_
          refine mr_iast K rfl (ma_t hty 4) md_B_decides_53 Nat.zero_lt_one (mi_vn (by omega) (by omega)) ?_
          rw [mi_tn (by omega)]
          refine mr_eqr (rb_sI _ _ _ _ _ _ (by decide)) ?_
          refine mg_aload_n K md_B_decides_54 rfl ?_
          refine mr_getS (k2 := 32) (i2 := 0) K mf_B_44 md_B_decides_55 Nat.zero_lt_one rfl ?_
          refine mg_iload_n K md_B_decides_58 rfl ?_
          refine mg_aload_n K md_B_decides_59 rfl ?_
          refine mr_getI (v := h 20 1) K mf_B_90 md_B_decides_60 (by decide) Nat.zero_lt_one rfl ?_
          refine mr_iast K rfl (ma_t hty 4) md_B_decides_63 Nat.zero_lt_one (mi_vn (by omega) (by omega)) ?_
          rw [mi_tn (by omega)]
          refine mr_eqr (rb_sI _ _ _ _ _ _ (by decide)) ?_
          refine mg_aload_n K md_B_decides_64 rfl ?_
          refine mr_getS (k2 := 34) (i2 := 0) K mf_B_50 md_B_decides_65 Nat.zero_lt_one rfl ?_
          refine mg_iload_n K md_B_decides_68 rfl ?_
          refine mg_aload_n K md_B_decides_69 rfl ?_
          refine mr_getI (v := h 20 16) K mf_B_93 md_B_decides_70 (by decide) Nat.zero_lt_one rfl ?_
          refine mr_iast K rfl (ma_t hty 4) md_B_decides_73 Nat.zero_lt_one (mi_vn (by omega) (by omega)) ?_
          rw [mi_tn (by omega)]
          refine mr_eqr (rb_sI _ _ _ _ _ _ (by decide)) ?_
          refine mg_aload_n K md_B_decides_74 rfl ?_
          refine mg_dup K md_B_decides_75 rfl ?_
          refine mr_getI (v := h 20 16) K mf_B_93 md_B_decides_76 (by decide) Nat.zero_lt_one rfl ?_
          refine mg_iconst K (v := 1) md_B_decides_79 (by decide) ?_
          refine mg_iadd K md_B_decides_80 ?_
          refine mr_putI K mf_B_93 md_B_decides_81 Nat.zero_lt_one ?_
          refine mr_eqr (rb_sI _ _ _ _ _ _ (by decide)) ?_
          refine mg_iconst K (v := 4) md_B_decides_84 (by decide) ?_
          exact mg_iret K hret hlk md_B_decides_85 (Nat.le_refl _) (Nat.le_refl _) ⟨by rw [show rb_dec h m0 = _ from (if_neg (fun z => z h7)).trans (if_pos ⟨h25, h30, h44⟩)], rfl, by rw [show rb_dec h m0 = _ from (if_neg (fun z => z h7)).trans (if_pos ⟨h25, h30, h44⟩)]⟩
  · refine mg_aload_n K md_B_decides_10 rfl ?_
    refine mg_iload_n K md_B_decides_11 rfl ?_
    refine mg_iload_n K md_B_decides_12 rfl ?_
    refine mr_cV K hA (ct_B_refused hty g h o hm (rb_rule h m0)) ms_B_86 (by decide) md_B_decides_13 rfl rfl Nat.zero_lt_one rfl (Nat.le_of_ble_eq_true rfl) ⟨Nat.zero_le _, Nat.zero_le _⟩ ?_
    exact mg_iret K hret hlk md_B_decides_16 (Nat.le_refl _) (Nat.le_refl _) ⟨by rw [show rb_dec h m0 = _ from if_pos h7], rfl, by rw [show rb_dec h m0 = _ from if_pos h7]⟩
theorem ct_B_first (hty : tys.map (·.2) = ma_ty) (g : ca_S) (h : rb_S) (o : Int64) (w s1 t1 : Int32) : mr_M l my_B_first mc_B_first 7 (some .int) 1 D mn_cl Z mb_B tys ma_sh [va_rf (some (ad 20 0)), .int w, .int s1, .int t1] ad (ma_R g (rb_R h o)) (some (.int (rb_on (rb_first h w s1 t1)))) (ma_R g (rb_R h o)) := by
  refine mg_M.of (cc := mc_B_first) (maxL := 7) (ret := (some .int)) (by decide) rfl (Nat.le_of_ble_eq_true rfl) (mg_caS rfl (mg_caS rfl (mg_caS rfl (mg_caS rfl mg_ca0)))) ?_
  intro p e s m args below meth c K hret hlk hnm hA
  have loop : ∀ (f k : Nat) (x : Option Nat), k + f = 96 → (∀ j, x = some j → j < 96) → rb_fF h w s1 t1 k f x = rb_first h w s1 t1 → mg_G p l e (mg_rm 1 0 0) s m args below meth c D mn_cl Z (mg_A ad (mr_C tys ma_sh ad (ma_R g (rb_R h o))) s.heap.size) s.heap 7 (MQ below (mg_Qc D mn_cl Z ad (mr_C tys ma_sh ad (ma_R g (rb_R h o))) s.heap.size (mg_Po tys ma_sh ad (some (.int (rb_on (rb_first h w s1 t1)))) (ma_R g (rb_R h o)))) args s 0 0 (mg_A ad (mr_C tys ma_sh ad (ma_R g (rb_R h o))) s.heap.size)) ad (mr_C tys ma_sh ad (ma_R g (rb_R h o))) [some (va_rf (some (ad 20 0))), some (.int w), some (.int s1), some (.int t1), some (.int (rb_on x)), some (.int (Int32.ofNat k))] 0 0 [] 6 := by
    intro f
    induction f with
    | zero =>
      intro k x hk hx hT
      refine mg_iload K md_B_first_6 rfl ?_
      refine mg_bipush K (v := 96) md_B_first_8 (by decide) ?_
      refine mg_icmp_ge K 120 md_B_first_10 rfl (fun h10 => ?_) (fun h10 => ?_)
      · refine mg_iload K md_B_first_120 rfl ?_
        exact mg_iret K hret hlk md_B_first_122 (Nat.le_refl _) (Nat.le_refl _) ⟨by rw [← hT]; rfl, rfl, rfl⟩
      · exact absurd ((mi_le (a := 96) (b := k) (by omega) (by omega)).mpr (by omega)) h10
    | succ f ih =>
      intro k x hk hx hT
      have hS : rb_fF h w s1 t1 (k + 1) f (rb_f1 h w s1 t1 k x) = rb_first h w s1 t1 := hT
      have nxt : ∀ (y : Option Nat), y = rb_f1 h w s1 t1 k x → (∀ j, y = some j → j < 96) → ∀ (b : Int32), mg_G p l e (mg_rm 1 0 0) s m args below meth c D mn_cl Z (mg_A ad (mr_C tys ma_sh ad (ma_R g (rb_R h o))) s.heap.size) s.heap 7 (MQ below (mg_Qc D mn_cl Z ad (mr_C tys ma_sh ad (ma_R g (rb_R h o))) s.heap.size (mg_Po tys ma_sh ad (some (.int (rb_on (rb_first h w s1 t1)))) (ma_R g (rb_R h o)))) args s 0 0 (mg_A ad (mr_C tys ma_sh ad (ma_R g (rb_R h o))) s.heap.size)) ad (mr_C tys ma_sh ad (ma_R g (rb_R h o))) [some (va_rf (some (ad 20 0))), some (.int w), some (.int s1), some (.int t1), some (.int (rb_on x)), some (.int (Int32.ofNat k)), some (.int b)] 0 0 [.int (rb_on y)] 112 := by
        rintro y rfl hy b
        refine mg_istore K md_B_first_112 (by decide) ?_
        refine mg_iinc K (v := Int32.ofNat (k + 1)) md_B_first_114 rfl (mi_a1 k) (by decide) ?_
        refine mg_goto K 6 md_B_first_117 rfl ?_
        refine mg_take 6 ?_
        exact ih (k + 1) _ (by omega) hy hS
      have mid : ∀ (b : Int32), (b = 0 ∧ ¬ rb_is h w s1 t1 k) ∨ (b = 1 ∧ rb_is h w s1 t1 k) → mg_G p l e (mg_rm 1 0 0) s m args below meth c D mn_cl Z (mg_A ad (mr_C tys ma_sh ad (ma_R g (rb_R h o))) s.heap.size) s.heap 7 (MQ below (mg_Qc D mn_cl Z ad (mr_C tys ma_sh ad (ma_R g (rb_R h o))) s.heap.size (mg_Po tys ma_sh ad (some (.int (rb_on (rb_first h w s1 t1)))) (ma_R g (rb_R h o)))) args s 0 0 (mg_A ad (mr_C tys ma_sh ad (ma_R g (rb_R h o))) s.heap.size)) ad (mr_C tys ma_sh ad (ma_R g (rb_R h o))) [some (va_rf (some (ad 20 0))), some (.int w), some (.int s1), some (.int t1), some (.int (rb_on x)), some (.int (Int32.ofNat k))] 0 0 [.int b] 66 := by
        intro b hb
        rcases hb with ⟨rfl, hb⟩ | ⟨rfl, hb⟩
        · refine mg_istore K md_B_first_66 (by decide) ?_
          refine mg_iload K md_B_first_68 rfl ?_
          refine mg_if_eq K 110 md_B_first_70 rfl (fun h70 => ?_) (fun h70 => ?_)
          · refine mg_iload K md_B_first_110 rfl ?_
            exact nxt x (by cases x with | none => exact (if_neg hb).symm | some j => exact (if_neg (fun z => hb z.1)).symm) hx 0
          · exact absurd rfl h70
        · cases x with
          | none =>
            refine mg_istore K md_B_first_66 (by decide) ?_
            refine mg_iload K md_B_first_68 rfl ?_
            refine mg_if_eq K 110 md_B_first_70 rfl (fun h70 => ?_) (fun h70 => ?_)
            · exact absurd h70 (by decide)
            · refine mg_iload K md_B_first_73 rfl ?_
              refine mg_if_lt K 105 md_B_first_75 rfl (fun h75 => ?_) (fun h75 => ?_)
              · refine mg_iload K md_B_first_105 rfl ?_
                refine mg_goto K 112 md_B_first_107 rfl ?_
                exact nxt (some k) (if_pos hb).symm (fun j h => by cases h; omega) 1
              · exact absurd (by decide) h75
          | some j =>
            have hj := hx j rfl
            rw [show rb_on (some j) = Int32.ofNat j from rfl]
            refine mg_istore K md_B_first_66 (by decide) ?_
            refine mg_iload K md_B_first_68 rfl ?_
            refine mg_if_eq K 110 md_B_first_70 rfl (fun h70 => ?_) (fun h70 => ?_)
            · exact absurd h70 (by decide)
            · refine mg_iload K md_B_first_73 rfl ?_
              refine mg_if_lt K 105 md_B_first_75 rfl (fun h75 => ?_) (fun h75 => ?_)
              · exact absurd h75 (mi_nn (by omega))
              · refine mg_aload_n K md_B_first_78 rfl ?_
                refine mr_getS (k2 := 34) (i2 := 0) K mf_B_50 md_B_first_79 Nat.zero_lt_one rfl ?_
                refine mg_iload K md_B_first_82 rfl ?_
                refine mr_iald (v := h 34 k) K rfl (ma_t hty 4) md_B_first_84 Nat.zero_lt_one (mi_vn (by omega) (by omega)) (by rw [mi_tn (by omega)]; rfl) ?_
                refine mg_aload_n K md_B_first_85 rfl ?_
                refine mr_getS (k2 := 34) (i2 := 0) K mf_B_50 md_B_first_86 Nat.zero_lt_one rfl ?_
                refine mg_iload K md_B_first_89 rfl ?_
                refine mg_if_ge K 99 md_B_first_91 rfl (fun h91 => ?_) (fun h91 => ?_)
                · refine mg_iload K md_B_first_99 rfl ?_
                  refine mr_iald (v := h 34 j) K rfl (ma_t hty 4) md_B_first_101 Nat.zero_lt_one (mi_vn (by omega) (by omega)) (by rw [mi_tn (by omega)]; rfl) ?_
                  refine mg_icmp_ge K 110 md_B_first_102 rfl (fun h102 => ?_) (fun h102 => ?_)
                  · refine mg_iload K md_B_first_110 rfl ?_
                    exact nxt (some j) (if_neg (fun z => z.2 h102)).symm hx 1
                  · refine mg_iload K md_B_first_105 rfl ?_
                    refine mg_goto K 112 md_B_first_107 rfl ?_
                    exact nxt (some k) (if_pos ⟨hb, h102⟩).symm (fun i h => by cases h; omega) 1
                · exact absurd (Int32.not_lt.mp (mi_nn (by omega))) h91
      refine mg_iload K md_B_first_6 rfl ?_
      refine mg_bipush K (v := 96) md_B_first_8 (by decide) ?_
      refine mg_icmp_ge K 120 md_B_first_10 rfl (fun h10 => ?_) (fun h10 => ?_)
      · exact absurd ((mi_le (a := 96) (b := k) (by omega) (by omega)).mp h10) (by omega)
      · refine mg_aload_n K md_B_first_13 rfl ?_
        refine mr_getS (k2 := 24) (i2 := 0) K mf_B_19 md_B_first_14 Nat.zero_lt_one rfl ?_
        refine mg_iload K md_B_first_17 rfl ?_
        refine mr_zald (v := h 24 k) K rfl (ma_t hty 2) md_B_first_19 Nat.zero_lt_one (mi_vn (by omega) (by omega)) (by rw [mi_tn (by omega)]; rfl) ?_
        refine mg_if_eq K 65 md_B_first_20 rfl (fun h20 => ?_) (fun h20 => ?_)
        · refine mg_iconst K (v := 0) md_B_first_65 (by decide) ?_
          exact mid 0 (Or.inl ⟨rfl, fun z => z.1 h20⟩)
        · refine mg_aload_n K md_B_first_23 rfl ?_
          refine mr_getS (k2 := 29) (i2 := 0) K mf_B_35 md_B_first_24 Nat.zero_lt_one rfl ?_
          refine mg_iload K md_B_first_27 rfl ?_
          refine mr_iald (v := h 29 k) K rfl (ma_t hty 4) md_B_first_29 Nat.zero_lt_one (mi_vn (by omega) (by omega)) (by rw [mi_tn (by omega)]; rfl) ?_
          refine mg_iload_n K md_B_first_30 rfl ?_
          refine mg_icmp_ne K 65 md_B_first_31 rfl (fun h31 => ?_) (fun h31 => ?_)
          · refine mg_iconst K (v := 0) md_B_first_65 (by decide) ?_
            exact mid 0 (Or.inl ⟨rfl, fun z => h31 z.2.1⟩)
          · refine mg_iload_n K md_B_first_34 rfl ?_
            refine mg_iconst K (v := -1) md_B_first_35 (by decide) ?_
            refine mg_icmp_eq K 50 md_B_first_36 rfl (fun h36 => ?_) (fun h36 => ?_)
            · refine mg_aload_n K md_B_first_50 rfl ?_
              refine mr_getS (k2 := 34) (i2 := 0) K mf_B_50 md_B_first_51 Nat.zero_lt_one rfl ?_
              refine mg_iload K md_B_first_54 rfl ?_
              refine mr_iald (v := h 34 k) K rfl (ma_t hty 4) md_B_first_56 Nat.zero_lt_one (mi_vn (by omega) (by omega)) (by rw [mi_tn (by omega)]; rfl) ?_
              refine mg_iload_n K md_B_first_57 rfl ?_
              refine mg_icmp_ge K 65 md_B_first_58 rfl (fun h58 => ?_) (fun h58 => ?_)
              · refine mg_iconst K (v := 0) md_B_first_65 (by decide) ?_
                exact mid 0 (Or.inl ⟨rfl, fun z => z.2.2.2 h58⟩)
              · refine mg_iconst K (v := 1) md_B_first_61 (by decide) ?_
                refine mg_goto K 66 md_B_first_62 rfl ?_
                exact mid 1 (Or.inr ⟨rfl, h20, h31, Or.inl h36, h58⟩)
            · refine mg_aload_n K md_B_first_39 rfl ?_
              refine mr_getS (k2 := 27) (i2 := 0) K mf_B_29 md_B_first_40 Nat.zero_lt_one rfl ?_
              refine mg_iload K md_B_first_43 rfl ?_
              refine mr_iald (v := h 27 k) K rfl (ma_t hty 4) md_B_first_45 Nat.zero_lt_one (mi_vn (by omega) (by omega)) (by rw [mi_tn (by omega)]; rfl) ?_
              refine mg_iload_n K md_B_first_46 rfl ?_
              refine mg_icmp_ne K 65 md_B_first_47 rfl (fun h47 => ?_) (fun h47 => ?_)
              · refine mg_iconst K (v := 0) md_B_first_65 (by decide) ?_
                exact mid 0 (Or.inl ⟨rfl, fun z => z.2.2.1.elim h36 h47⟩)
              · refine mg_aload_n K md_B_first_50 rfl ?_
                refine mr_getS (k2 := 34) (i2 := 0) K mf_B_50 md_B_first_51 Nat.zero_lt_one rfl ?_
                refine mg_iload K md_B_first_54 rfl ?_
                refine mr_iald (v := h 34 k) K rfl (ma_t hty 4) md_B_first_56 Nat.zero_lt_one (mi_vn (by omega) (by omega)) (by rw [mi_tn (by omega)]; rfl) ?_
                refine mg_iload_n K md_B_first_57 rfl ?_
                refine mg_icmp_ge K 65 md_B_first_58 rfl (fun h58 => ?_) (fun h58 => ?_)
                · refine mg_iconst K (v := 0) md_B_first_65 (by decide) ?_
                  exact mid 0 (Or.inl ⟨rfl, fun z => z.2.2.2 h58⟩)
                · refine mg_iconst K (v := 1) md_B_first_61 (by decide) ?_
                  refine mg_goto K 66 md_B_first_62 rfl ?_
                  exact mid 1 (Or.inr ⟨rfl, h20, h31, Or.inr h47, h58⟩)
  refine mg_iconst K (v := -1) md_B_first_0 (by decide) ?_
  refine mg_istore K md_B_first_1 (by decide) ?_
  refine mg_iconst K (v := 0) md_B_first_3 (by decide) ?_
  refine mg_istore K md_B_first_4 (by decide) ?_
  exact loop 96 0 none (by omega) (fun j h => by cases h) rfl
end RB2
