/-- the slots' numbers -/
def slOK (M : Nat → Nat → Int32) (k : Nat) (st ln tk : Nat → Nat) : Prop := M 3 0 = nI k ∧ k ≤ 60 ∧ ∀ i, i < k → M 4 i = nI (st i) ∧ M 5 i = nI (ln i) ∧ M 6 i = nI (tk i) ∧ st i < 240 ∧ 1 ≤ ln i ∧ ln i ≤ 240 ∧ tk i < 6
theorem slOK.keep {M M1 : Nat → Nat → Int32} {k : Nat} {st ln tk : Nat → Nat} (h : slOK M k st ln tk) (h3 : M1 3 0 = M 3 0) (h4 : ∀ j, M1 4 j = M 4 j) (h5 : ∀ j, M1 5 j = M 5 j) (h6 : ∀ j, M1 6 j = M 6 j) : slOK M1 k st ln tk := by
  obtain ⟨a, b, c⟩ := h
  refine ⟨h3.trans a, b, fun i hi => ?_⟩
  rw [h4, h5, h6]
  exact c i hi
/-- the task of the last of the first i slots that covers tick c; how many cover it -/
def sp_at (st ln tk : Nat → Nat) : Nat → Nat → Option Nat
  | 0, _ => none
  | i + 1, c => if st i ≤ c ∧ c < st i + ln i then some (tk i) else sp_at st ln tk i c
def sp_cov (st ln : Nat → Nat) : Nat → Nat → Nat
  | 0, _ => 0
  | i + 1, c => if st i ≤ c ∧ c < st i + ln i then sp_cov st ln i c + 1 else sp_cov st ln i c
theorem sp_at_1 {st ln tk : Nat → Nat} {i c : Nat} (h : st i ≤ c ∧ c < st i + ln i) : sp_at st ln tk (i + 1) c = some (tk i) := if_pos h
theorem sp_at_0 {st ln tk : Nat → Nat} {i c : Nat} (h : ¬ (st i ≤ c ∧ c < st i + ln i)) : sp_at st ln tk (i + 1) c = sp_at st ln tk i c := if_neg h
theorem sp_cov_1 {st ln : Nat → Nat} {i c : Nat} (h : st i ≤ c ∧ c < st i + ln i) : sp_cov st ln (i + 1) c = sp_cov st ln i c + 1 := if_pos h
theorem sp_cov_0 {st ln : Nat → Nat} {i c : Nat} (h : ¬ (st i ≤ c ∧ c < st i + ln i)) : sp_cov st ln (i + 1) c = sp_cov st ln i c := if_neg h
theorem sp_at_cov {st ln tk : Nat → Nat} {i c : Nat} : sp_at st ln tk i c = none ↔ sp_cov st ln i c = 0 := by
  induction i with
  | zero => exact ⟨fun _ => rfl, fun _ => rfl⟩
  | succ i ih =>
    by_cases h : st i ≤ c ∧ c < st i + ln i
    · rw [sp_at_1 h, sp_cov_1 h]
      exact ⟨fun q => (by cases q), fun q => (by omega)⟩
    · rw [sp_at_0 h, sp_cov_0 h]; exact ih
theorem sp_at_in {st ln tk : Nat → Nat} {i c t : Nat} (h : sp_at st ln tk i c = some t) : ∃ j, j < i ∧ tk j = t := by
  induction i with
  | zero => cases h
  | succ i ih =>
    by_cases d : st i ≤ c ∧ c < st i + ln i
    · rw [sp_at_1 d] at h; cases h; exact ⟨i, by omega, rfl⟩
    · rw [sp_at_0 d] at h
      obtain ⟨j, h1, h2⟩ := ih h
      exact ⟨j, by omega, h2⟩
theorem sp_cov_mono {st ln : Nat → Nat} {i j c : Nat} (h : i ≤ j) : sp_cov st ln i c ≤ sp_cov st ln j c := by
  induction j with
  | zero => rw [show i = 0 by omega]; exact Nat.le_refl _
  | succ j ih =>
    rcases Nat.lt_or_ge i (j + 1) with d | d
    · have q := ih (by omega)
      by_cases e : st j ≤ c ∧ c < st j + ln j
      · rw [sp_cov_1 e]; omega
      · rw [sp_cov_0 e]; exact q
    · rw [show i = j + 1 by omega]; exact Nat.le_refl _
/-- no slot leaves the round and no two meet -/
def sp_tab (st ln : Nat → Nat) (k h : Nat) : Prop := (∀ i, i < k → st i + ln i ≤ h) ∧ ∀ c, c < h → sp_cov st ln k c < 2

set_option maxHeartbeats 4000000 in
set_option maxRecDepth 100000 in
/-- spread -/
theorem c_Tb_spread (l : Launch) (D : va_G) (ca : Nat → ClassId) (ad : Nat → Nat) (M : Nat → Nat → Int32) (k : Nat) (st ln tk : Nat → Nat) (h : Nat) (hS : slOK M k st ln tk) (hh1 : 1 ≤ h) (hh : h ≤ 240) : xw_Mi l y_Tb_spread (.code y_Tb_spread b_Tb_spread 5 (some .boolean) :: zG) { frames := 1, cells := 0, slots := 0, locals := 23 } D zCl (zT ca) [.ref (ad 3), .ref (ad 13), .int (nI h)] (zW ca ad M) (fun _ => True) 0 0 (zW ca ad) (fun r M' => (∀ a b, a ≠ 13 → M' a b = M a b) ∧ (sp_tab st ln k h ∧ r = nI 1 ∧ (∀ u, u < 240 → M' 13 u = oI (sp_at st ln tk k u)) ∨ ¬ sp_tab st ln k h ∧ r = nI 0)) := by
  intro sz
  refine xw_met (cc := b_Tb_spread) (maxL := 5) (ret := (some .boolean)) (by decide) rfl (Nat.le_of_ble_eq_true rfl) (fun p e s m args below meth c hr hlk hnm hsz hKs C => ?_)
  have hk60 := hS.2.1
  have loop1 : ∀ (d : Nat) (i : Nat) (M1 : Nat → Nat → Int32), k - i = d → i ≤ k → (∀ a b, a ≠ 13 → M1 a b = M a b) → (∀ u, u < 240 → M1 13 u = oI (sp_at st ln tk i u)) → (∀ j, j < i → st j + ln j ≤ h) → (∀ u, u < h → sp_cov st ln i u < 2) → XW p l e { frames := 1, cells := 0, slots := 0, locals := 23 } s m args below meth c D zCl (va_A (zW ca ad M) sz) s.heap 5 (zW ca ad M1) 0 0 (MQ below (va_Qi (fun r M' => (∀ a b, a ≠ 13 → M' a b = M a b) ∧ (sp_tab st ln k h ∧ r = nI 1 ∧ (∀ u, u < 240 → M' 13 u = oI (sp_at st ln tk k u)) ∨ ¬ sp_tab st ln k h ∧ r = nI 0)) (xw_B D zCl (zT ca) (va_A (zW ca ad M) sz) (zW ca ad)) (va_A (zW ca ad M) sz)) args s 0 0 (va_A (zW ca ad M) sz)) 7 [(0, .ref (ad 3)), (1, .ref (ad 13)), (2, .int (nI h)), (3, .int (nI i))] [] := by
    intro d
    induction d using Nat.strongRecOn with
    | _ d ih =>
      intro i M1 hd hi hf1 hv1 hb1 hcv1
      have hS1 : slOK M1 k st ln tk := hS.keep (hf1 _ _ (by decide)) (fun j => hf1 _ _ (by decide)) (fun j => hf1 _ _ (by decide)) (fun j => hf1 _ _ (by decide))
      refine xw_iload_n C 3 d_Tb_spread_7 rfl rfl (pc' := 8) rfl ?_
      refine xw_aload_n C 0 d_Tb_spread_8 rfl rfl (pc' := 9) rfl ?_
      refine xw_get C u_Tb 3 zr_3 rfl 3 (by decide) k_143 rfl rfl d_Tb_spread_9 (pc' := 12) rfl ?_
      refine xw_topi (y := nI k) hS1.1 ?_
      refine xw_icmp_ge C (tgt := 92) d_Tb_spread_12 (by decide) (pc' := 15) rfl (fun h12 => ?_) (fun h12 => ?_)
      ·
        replace h12 : k ≤ i := (nI_leI (by omega) (by omega)).mp h12
        refine xw_iconst C (v := nI 1) d_Tb_spread_92 (by decide) (pc' := 93) rfl ?_
        refine xw_zret C hr hlk xp_n1 (F := zW ca ad) M1 rfl ?_ d_Tb_spread_93
        rw [show i = k by omega] at hv1 hb1 hcv1
        exact ⟨hf1, Or.inl ⟨⟨hb1, hcv1⟩, rfl, hv1⟩⟩
      ·
        replace h12 : ¬ (k ≤ i) := fun hneg => h12 ((nI_leI (by omega) (by omega)).mpr hneg)
        refine xw_aload_n C 0 d_Tb_spread_15 rfl rfl (pc' := 16) rfl ?_
        refine xw_get C u_Tb 3 zr_3 rfl 0 (by decide) k_140 rfl rfl d_Tb_spread_16 (pc' := 19) rfl ?_
        refine xw_iload_n C 3 d_Tb_spread_19 rfl rfl (pc' := 20) rfl ?_
        refine xw_iald C 4 0 zr_4 rfl i rfl (by omega) (by decide) d_Tb_spread_20 (pc' := 21) rfl ?_
        refine xw_topi (y := nI (st i)) (hS1.2.2 i (by omega)).1 ?_
        refine xw_aload_n C 0 d_Tb_spread_21 rfl rfl (pc' := 22) rfl ?_
        refine xw_get C u_Tb 3 zr_3 rfl 1 (by decide) k_141 rfl rfl d_Tb_spread_22 (pc' := 25) rfl ?_
        refine xw_iload_n C 3 d_Tb_spread_25 rfl rfl (pc' := 26) rfl ?_
        refine xw_iald C 5 0 zr_5 rfl i rfl (by omega) (by decide) d_Tb_spread_26 (pc' := 27) rfl ?_
        refine xw_topi (y := nI (ln i)) (hS1.2.2 i (by omega)).2.1 ?_
        refine xw_iadd C d_Tb_spread_27 (pc' := 28) rfl ?_
        refine xw_topi (y := nI ((st i) + (ln i))) (nI_add _ _) ?_
        refine xw_iload_n C 2 d_Tb_spread_28 rfl rfl (pc' := 29) rfl ?_
        have hbi := hS.2.2 i (by omega)
        refine xw_icmp_le C (tgt := 34) d_Tb_spread_29 (by decide) (pc' := 32) rfl (fun h29 => ?_) (fun h29 => ?_)
        ·
          replace h29 : ((st i) + (ln i)) ≤ h := (nI_leI (by omega) (by omega)).mp h29
          refine xw_aload_n C 0 d_Tb_spread_34 rfl rfl (pc' := 35) rfl ?_
          refine xw_get C u_Tb 3 zr_3 rfl 0 (by decide) k_140 rfl rfl d_Tb_spread_35 (pc' := 38) rfl ?_
          refine xw_iload_n C 3 d_Tb_spread_38 rfl rfl (pc' := 39) rfl ?_
          refine xw_iald C 4 0 zr_4 rfl i rfl (by omega) (by decide) d_Tb_spread_39 (pc' := 40) rfl ?_
          refine xw_topi (y := nI (st i)) (hS1.2.2 i (by omega)).1 ?_
          refine xw_istore C d_Tb_spread_40 (by decide) rfl (pc' := 42) rfl ?_
          refine xw_lv [1, 2, 3, 4, 0] rfl ?_
          have loop2 : ∀ (d2 : Nat) (x : Nat) (M2 : Nat → Nat → Int32), st i + ln i - x = d2 → st i ≤ x → x ≤ st i + ln i → (∀ a b, a ≠ 13 → M2 a b = M a b) → (∀ u, u < 240 → M2 13 u = if st i ≤ u ∧ u < x then nI (tk i) else oI (sp_at st ln tk i u)) → (∀ u, st i ≤ u → u < x → sp_cov st ln i u = 0) → XW p l e { frames := 1, cells := 0, slots := 0, locals := 23 } s m args below meth c D zCl (va_A (zW ca ad M) sz) s.heap 5 (zW ca ad M2) 0 0 (MQ below (va_Qi (fun r M' => (∀ a b, a ≠ 13 → M' a b = M a b) ∧ (sp_tab st ln k h ∧ r = nI 1 ∧ (∀ u, u < 240 → M' 13 u = oI (sp_at st ln tk k u)) ∨ ¬ sp_tab st ln k h ∧ r = nI 0)) (xw_B D zCl (zT ca) (va_A (zW ca ad M) sz) (zW ca ad)) (va_A (zW ca ad M) sz)) args s 0 0 (va_A (zW ca ad M) sz)) 42 [(0, .ref (ad 3)), (1, .ref (ad 13)), (2, .int (nI h)), (3, .int (nI i)), (4, .int (nI x))] [] := by
            intro d2
            induction d2 using Nat.strongRecOn with
            | _ d2 ih2 =>
              intro x M2 hd2 hx1 hx2 hf2 hv2 hc2
              have hS2 : slOK M2 k st ln tk := hS.keep (hf2 _ _ (by decide)) (fun j => hf2 _ _ (by decide)) (fun j => hf2 _ _ (by decide)) (fun j => hf2 _ _ (by decide))
              refine xw_iload C 4 d_Tb_spread_42 rfl (pc' := 44) rfl ?_
              refine xw_aload_n C 0 d_Tb_spread_44 rfl rfl (pc' := 45) rfl ?_
              refine xw_get C u_Tb 3 zr_3 rfl 0 (by decide) k_140 rfl rfl d_Tb_spread_45 (pc' := 48) rfl ?_
              refine xw_iload_n C 3 d_Tb_spread_48 rfl rfl (pc' := 49) rfl ?_
              refine xw_iald C 4 0 zr_4 rfl i rfl (by omega) (by decide) d_Tb_spread_49 (pc' := 50) rfl ?_
              refine xw_topi (y := nI (st i)) (hS2.2.2 i (by omega)).1 ?_
              refine xw_aload_n C 0 d_Tb_spread_50 rfl rfl (pc' := 51) rfl ?_
              refine xw_get C u_Tb 3 zr_3 rfl 1 (by decide) k_141 rfl rfl d_Tb_spread_51 (pc' := 54) rfl ?_
              refine xw_iload_n C 3 d_Tb_spread_54 rfl rfl (pc' := 55) rfl ?_
              refine xw_iald C 5 0 zr_5 rfl i rfl (by omega) (by decide) d_Tb_spread_55 (pc' := 56) rfl ?_
              refine xw_topi (y := nI (ln i)) (hS2.2.2 i (by omega)).2.1 ?_
              refine xw_iadd C d_Tb_spread_56 (pc' := 57) rfl ?_
              refine xw_topi (y := nI ((st i) + (ln i))) (nI_add _ _) ?_
              have hbi := hS.2.2 i (by omega)
              refine xw_icmp_ge C (tgt := 86) d_Tb_spread_57 (by decide) (pc' := 60) rfl (fun h57 => ?_) (fun h57 => ?_)
              ·
                replace h57 : ((st i) + (ln i)) ≤ x := (nI_leI (by omega) (by omega)).mp h57
                refine xw_iinc C 3 (v := nI (i + 1)) d_Tb_spread_86 rfl (xp_inc1 _) (by decide) rfl (pc' := 89) rfl ?_
                refine xw_goto C (tgt := 7) d_Tb_spread_89 (by decide) ?_
                refine xw_lv [1, 2, 3, 0] rfl ?_
                refine ih (k - (i + 1)) (by omega) (i + 1) M2 rfl (by omega) hf2 (fun u hu => ?_) (fun j hj => ?_) (fun u hu => ?_)
                · rw [hv2 u hu]
                  by_cases c9 : st i ≤ u ∧ u < st i + ln i
                  · rw [sp_at_1 c9, if_pos ⟨c9.1, by omega⟩]; rfl
                  · rw [sp_at_0 c9, if_neg (fun h9 => c9 ⟨h9.1, by omega⟩)]
                · rcases Nat.lt_or_ge j i with c9 | c9
                  · exact hb1 j c9
                  · rw [show j = i by omega]; omega
                · by_cases c9 : st i ≤ u ∧ u < st i + ln i
                  · rw [sp_cov_1 c9, hc2 u c9.1 (by omega)]; omega
                  · rw [sp_cov_0 c9]; exact hcv1 u hu
              ·
                replace h57 : ¬ (((st i) + (ln i)) ≤ x) := fun hneg => h57 ((nI_leI (by omega) (by omega)).mpr hneg)
                have hx2 := hv2 x (by omega)
                rw [if_neg (fun h9 => absurd h9.2 (Nat.lt_irrefl x))] at hx2
                rcases hax : sp_at st ln tk i x with _ | t9
                ·
                  have hox : M2 13 x = -1 := by rw [hx2, hax]; rfl
                  have hc9 : sp_cov st ln i x = 0 := sp_at_cov.mp hax
                  refine xw_aload_n C 1 d_Tb_spread_60 rfl rfl (pc' := 61) rfl ?_
                  refine xw_iload C 4 d_Tb_spread_61 rfl (pc' := 63) rfl ?_
                  refine xw_iald C 13 0 zr_13 rfl x rfl (by omega) (by decide) d_Tb_spread_63 (pc' := 64) rfl ?_
                  refine xw_topi (y := (-1)) hox ?_
                  refine xw_iconst C (v := (-1)) d_Tb_spread_64 (by decide) (pc' := 65) rfl ?_
                  refine xw_icmp_eq C (tgt := 70) d_Tb_spread_65 (by decide) (pc' := 68) rfl (fun h65 => ?_) (fun h65 => ?_)
                  ·
                    refine xw_aload_n C 1 d_Tb_spread_70 rfl rfl (pc' := 71) rfl ?_
                    refine xw_iload C 4 d_Tb_spread_71 rfl (pc' := 73) rfl ?_
                    refine xw_aload_n C 0 d_Tb_spread_73 rfl rfl (pc' := 74) rfl ?_
                    refine xw_get C u_Tb 3 zr_3 rfl 2 (by decide) k_142 rfl rfl d_Tb_spread_74 (pc' := 77) rfl ?_
                    refine xw_iload_n C 3 d_Tb_spread_77 rfl rfl (pc' := 78) rfl ?_
                    refine xw_iald C 6 0 zr_6 rfl i rfl (by omega) (by decide) d_Tb_spread_78 (pc' := 79) rfl ?_
                    refine xw_topi (y := nI (tk i)) (hS2.2.2 i (by omega)).2.2.1 ?_
                    obtain ⟨M101, hM101⟩ : ∃ zq, zq = zst M2 13 x (nI (tk i)) := ⟨_, rfl⟩
                    refine xw_iast C 13 0 zr_13 rfl x rfl (by omega) (by decide) (ws' := zW ca ad M101) (by rw [hM101]; exact zs_13 _ _) d_Tb_spread_79 (pc' := 80) rfl ?_
                    refine xw_iinc C 4 (v := nI (x + 1)) d_Tb_spread_80 rfl (xp_inc1 _) (by decide) rfl (pc' := 83) rfl ?_
                    refine xw_goto C (tgt := 42) d_Tb_spread_83 (by decide) ?_
                    refine xw_lv [1, 2, 3, 4, 0] rfl ?_
                    refine ih2 (st i + ln i - (x + 1)) (by omega) (x + 1) M101 rfl (by omega) (by omega) (fun a b h1 => by rw [hM101, zst_ap, if_neg (fun h9 => h1 h9.1)]; exact hf2 a b h1) (fun u hu => ?_) (fun u h1 h2 => ?_)
                    · rw [hM101, zst_ap]
                      by_cases c9 : u = x
                      · subst c9
                        rw [if_pos ⟨rfl, rfl⟩, if_pos ⟨by omega, by omega⟩]
                      · rw [if_neg (fun h9 => c9 h9.2), hv2 u hu]
                        by_cases c8 : st i ≤ u ∧ u < x
                        · rw [if_pos c8, if_pos ⟨c8.1, by omega⟩]
                        · rw [if_neg c8, if_neg (fun h9 => c8 ⟨h9.1, by omega⟩)]
                    · rcases Nat.lt_or_ge u x with c9 | c9
                      · exact hc2 u h1 c9
                      · rw [show u = x by omega]; exact hc9
                  ·
                    exact absurd rfl h65
                ·
                  have hox : M2 13 x = nI t9 := by rw [hx2, hax]; rfl
                  have ht9 : t9 < 6 := by obtain ⟨j, j1, j2⟩ := sp_at_in hax; have := hS.2.2 j (by omega); omega
                  have hc9 : sp_cov st ln i x ≠ 0 := fun h9 => by rw [sp_at_cov.mpr h9] at hax; cases hax
                  refine xw_aload_n C 1 d_Tb_spread_60 rfl rfl (pc' := 61) rfl ?_
                  refine xw_iload C 4 d_Tb_spread_61 rfl (pc' := 63) rfl ?_
                  refine xw_iald C 13 0 zr_13 rfl x rfl (by omega) (by decide) d_Tb_spread_63 (pc' := 64) rfl ?_
                  refine xw_topi (y := nI t9) hox ?_
                  refine xw_iconst C (v := (-1)) d_Tb_spread_64 (by decide) (pc' := 65) rfl ?_
                  refine xw_icmp_eq C (tgt := 70) d_Tb_spread_65 (by decide) (pc' := 68) rfl (fun h65 => ?_) (fun h65 => ?_)
                  ·
                    exact absurd h65 (xp_nem1 (by omega))
                  ·
                    refine xw_iconst C (v := nI 0) d_Tb_spread_68 (by decide) (pc' := 69) rfl ?_
                    refine xw_zret C hr hlk xp_n0 (F := zW ca ad) M2 rfl ?_ d_Tb_spread_69
                    refine ⟨hf2, Or.inr ⟨fun h9 => ?_, rfl⟩⟩
                    have q1 := h9.2 x (by omega)
                    have q2 := sp_cov_mono (st := st) (ln := ln) (c := x) (show i + 1 ≤ k by omega)
                    rw [sp_cov_1 ⟨by omega, by omega⟩] at q2
                    omega
          exact loop2 _ (st i) M1 rfl (by omega) (by omega) hf1 (fun u hu => by rw [if_neg (by omega)]; exact hv1 u hu) (fun u h1 h2 => by omega)
        ·
          replace h29 : ¬ (((st i) + (ln i)) ≤ h) := fun hneg => h29 ((nI_leI (by omega) (by omega)).mpr hneg)
          refine xw_iconst C (v := nI 0) d_Tb_spread_32 (by decide) (pc' := 33) rfl ?_
          refine xw_zret C hr hlk xp_n0 (F := zW ca ad) M1 rfl ?_ d_Tb_spread_33
          exact ⟨hf1, Or.inr ⟨fun h9 => by have := h9.1 i (by omega); omega, rfl⟩⟩
  refine xw_lvE (lv' := [(0, .ref (ad 3)), (1, .ref (ad 13)), (2, .int (nI h))]) rfl ?_
  refine xw_aload_n C 1 d_Tb_spread_0 rfl rfl (pc' := 1) rfl ?_
  refine xw_iconst C (v := (-1)) d_Tb_spread_1 (by decide) (pc' := 2) rfl ?_
  refine xw_callSv C (c_Ar_fill l D ca ad M 13 240 (-1) (by decide) (fun _ => rfl) (by decide)) ⟨zg_B C 2 k_469 k_38 k_365 q_Ar_fill ⟨by decide, by decide⟩, C.2.2.2.2.1 _ k_364⟩ (fun _ _ _ _ h => h) (fun _ _ _ _ _ _ _ => trivial) rfl rfl (Nat.le_of_ble_eq_true rfl) d_Tb_spread_2 ⟨by decide, by decide⟩ (pc' := 5) rfl (fun M2 hp3 => ?_)
  have hM2 := hp3
  refine xw_iconst C (v := nI 0) d_Tb_spread_5 (by decide) (pc' := 6) rfl ?_
  refine xw_istore_n C d_Tb_spread_6 rfl (by decide) rfl (pc' := 7) rfl ?_
  refine xw_lv [1, 2, 3, 0] rfl ?_
  exact loop1 k 0 M2 rfl (by omega) (fun a b h1 => by rw [hM2, zfl_ap, if_neg (fun h9 => h1 h9.1)]) (fun u hu => by rw [hM2, zfl_ap, if_pos ⟨rfl, hu⟩]; rfl) (fun j hj => by omega) (fun u hu => by show (0 : Nat) < 2; omega)
