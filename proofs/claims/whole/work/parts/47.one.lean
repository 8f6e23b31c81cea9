theorem tmOK.re {M : Nat → Nat → Int32} {n tm i : Nat} {per wk dl of : Nat → Nat} (hT : tmOK M n per wk dl of) : tmOK (zReY M of per tm i) n per wk dl of := hT.keep (zReY_out (by omega)) (fun a j h1 h2 => zReY_out (by omega))
theorem zEnY_out {M : Nat → Nat → Int32} {t o a b : Nat} (h1 : ¬ (a = 49 ∧ b = t)) (h2 : a ≠ 54) : zEnY M t o a b = M a b := by
  have e : zEnY1 M t o a b = M a b := by
    unfold zEnY1
    rw [zst_ap, if_neg (fun q => h2 q.1), zst_ap, if_neg h1]
  unfold zEnY
  split
  · rw [zst_ap, if_neg (fun q => h2 q.1)]; exact e
  · exact e
theorem zSvY_out {M : Nat → Nat → Int32} {t pl hd w a b : Nat} (h1 : a < 48 ∨ a = 50 ∨ 54 < a ∨ (48 < a ∧ a < 53 ∧ b ≠ t)) : zSvY M t pl hd w a b = M a b := by
  unfold zSvY
  split
  · rw [zst_ap, if_neg (by omega)]; exact zInY_out (by omega) (by omega) (by omega)
  · rw [zEnY_out (by omega) (by omega), zst_ap, if_neg (by omega)]; exact zInY_out (by omega) (by omega) (by omega)

set_option maxHeartbeats 4000000 in
set_option maxRecDepth 100000 in
/-- one -/
theorem c_Md_one (l : Launch) (D : va_G) (ca : Nat → ClassId) (ad : Nat → Nat) (M : Nat → Nat → Int32) (n : Nat) (per wk dl of : Nat → Nat) (k : Nat) (st ln tk : Nat → Nat) (h tm : Nat) (hR : rmOK M n per wk dl of k st ln tk h tm) (htm : tm < 2 ^ 30) : xw_Mi l y_Md_one (.code y_Md_one b_Md_one 4 (some .int) :: zG) { frames := 1, cells := 0, slots := 0, locals := 25 } D zCl (zT ca) [.ref (ad 38)] (zW ca ad M) (fun _ => True) 0 0 (zW ca ad) (fun r M' => M' = (mdF n per wk of (fun x => sp_at st ln tk k x) h tm M).1 ∧ r = (mdF n per wk of (fun x => sp_at st ln tk k x) h tm M).2) := by
  intro sz
  refine xw_met (cc := b_Md_one) (maxL := 4) (ret := (some .int)) (by decide) rfl (Nat.le_of_ble_eq_true rfl) (fun p e s m args below meth c hr hlk hnm hsz hKs C => ?_)
  obtain ⟨hT, hS, htime, hrd, hat, hJ, hF⟩ := hR
  have hn6 := hT.1
  have loop1 : ∀ (d : Nat) (i : Nat) (M1 : Nat → Nat → Int32), n - i = d → i ≤ n → M1 = zReY M of per tm i → XW p l e { frames := 1, cells := 0, slots := 0, locals := 25 } s m args below meth c D zCl (va_A (zW ca ad M) sz) s.heap 4 (zW ca ad M1) 0 0 (MQ below (va_Qi (fun r M' => M' = (mdF n per wk of (fun x => sp_at st ln tk k x) h tm M).1 ∧ r = (mdF n per wk of (fun x => sp_at st ln tk k x) h tm M).2) (xw_B D zCl (zT ca) (va_A (zW ca ad M) sz) (zW ca ad)) (va_A (zW ca ad M) sz)) args s 0 0 (va_A (zW ca ad M) sz)) 2 [(0, .ref (ad 38)), (1, .int (nI i))] [] := by
    intro d
    induction d using Nat.strongRecOn with
    | _ d ih =>
      intro i M1 hd hi hM1
      have hk1 : ∀ a b, (a < 49 ∨ 53 < a) → M1 a b = M a b := fun a b hab => by rw [hM1]; exact zReY_out hab
      have hT1 : tmOK M1 n per wk dl of := by rw [hM1]; exact hT.re
      refine xw_iload_n C 1 d_Md_one_2 rfl rfl (pc' := 3) rfl ?_
      refine xw_aload_n C 0 d_Md_one_3 rfl rfl (pc' := 4) rfl ?_
      refine xw_get C u_Md 38 zr_38 rfl 2 (by decide) k_572 rfl rfl d_Md_one_4 (pc' := 7) rfl ?_
      refine xw_topi (y := nI n) hT1.2.1 ?_
      refine xw_icmp_ge C (tgt := 33) d_Md_one_7 (by decide) (pc' := 10) rfl (fun h7 => ?_) (fun h7 => ?_)
      ·
        replace h7 : n ≤ i := (nI_leI (by omega) (by omega)).mp h7
        rw [show i = n by omega] at hM1
        have hS1 : smOK M1 k st ln tk := hS.keep (hk1 _ _ (by omega)) (fun a j h1 h2 => hk1 _ _ (by omega))
        have hJ1 : jmOK M1 n wk := by rw [hM1]; exact jmOK.rel hT hJ hF
        refine xw_aload_n C 0 d_Md_one_33 rfl rfl (pc' := 34) rfl ?_
        refine xw_aload_n C 0 d_Md_one_34 rfl rfl (pc' := 35) rfl ?_
        refine xw_get C u_Md 38 zr_38 rfl 14 (by decide) k_584 rfl rfl d_Md_one_35 (pc' := 38) rfl ?_
        refine xw_topi (y := nI tm) ((hk1 _ _ (by omega)).trans htime) ?_
        refine xw_aload_n C 0 d_Md_one_38 rfl rfl (pc' := 39) rfl ?_
        refine xw_callVi C (c_Md_whole l D ca ad M1 n per wk dl of hT1) ⟨zg_B C 0 k_666 k_31 k_669 q_Md_whole ⟨by decide, by decide⟩, C.2.2.2.2.1 _ k_668, C.2.2.2.2.1 _ k_11⟩ 38 zr_38 rfl rfl (fun _ _ _ _ h => h) (fun _ _ _ _ _ _ _ => trivial) rfl rfl (Nat.le_of_ble_eq_true rfl) d_Md_one_39 ⟨by decide, by decide⟩ (pc' := 42) rfl (fun r51 M52 hp53 => ?_)
        obtain ⟨hme, hre⟩ := hp53
        rw [hme]
        clear hme
        refine xw_topi (y := nI h) (by rcases hre with ⟨h8, q1, q2⟩ | ⟨q1, q2⟩; rw [q2, sp_rd_one q1 hrd]; exact absurd hrd (fun q => sp_no_rd q1 q)) ?_
        clear hre
        have hh1 := hrd.1
        have hh2 := hrd.2.1
        refine xw_irem C d_Md_one_42 (nI_ne0 (by omega) (by omega)) (pc' := 43) rfl ?_
        refine xw_topi (y := nI (tm % h)) (pk_rem (by omega) (by omega) (by omega)) ?_
        have hm42 : tm % h < h := Nat.mod_lt _ (by omega)
        refine xw_callVi C (c_Md_at l D ca ad M1 k st ln tk (tm % h) hS1 (by omega)) ⟨zg_B C 1 k_722 k_31 k_725 q_Md_at ⟨by decide, by decide⟩, C.2.2.2.2.1 _ k_724, C.2.2.2.2.1 _ k_19⟩ 38 zr_38 rfl rfl (fun _ _ _ _ h => h) (fun _ _ _ _ _ _ _ => trivial) rfl rfl (Nat.le_of_ble_eq_true rfl) d_Md_one_43 ⟨by decide, by decide⟩ (pc' := 46) rfl (fun r54 M55 hp56 => ?_)
        obtain ⟨hme, hre⟩ := hp56
        rw [hme, hre]
        clear hme hre
        rcases hq : sp_at st ln tk k (tm % h) with _ | t
        ·
          refine xw_topi (y := -1) rfl ?_
          refine xw_istore_n C d_Md_one_46 rfl (by decide) rfl (pc' := 47) rfl ?_
          refine xw_aload_n C 1 d_Md_one_47 rfl rfl (pc' := 48) rfl ?_
          refine xw_dup C d_Md_one_48 rfl (pc' := 49) rfl ?_
          refine xw_get C u_Md 38 zr_38 rfl 14 (by decide) k_584 rfl rfl d_Md_one_49 (pc' := 52) rfl ?_
          refine xw_topi (y := nI tm) ((hk1 _ _ (by omega)).trans htime) ?_
          refine xw_iconst C (v := nI 1) d_Md_one_52 (by decide) (pc' := 53) rfl ?_
          refine xw_iadd C d_Md_one_53 (pc' := 54) rfl ?_
          refine xw_topi (y := nI (tm + 1)) (nI_add _ _) ?_
          obtain ⟨M57, hM57⟩ : ∃ zq, zq = zst M1 38 4 (nI (tm + 1)) := ⟨_, rfl⟩
          refine xw_put C u_Md t_Md t_Md_ok n_Md 38 zr_38 rfl 14 (by decide) k_584 rfl rfl (t_Md_ok 14 (by decide)) rfl rfl (Nat.le_of_ble_eq_true rfl) (ws' := zW ca ad M57) (by rw [hM57]; exact zs_38_4 _) d_Md_one_54 (pc' := 57) rfl ?_
          have hk2 : ∀ a b, a ≠ 38 → M57 a b = M1 a b := fun a b h1 => by rw [hM57, zst_ap, if_neg (fun q => h1 q.1)]
          refine xw_iload_n C 0 d_Md_one_57 rfl rfl (pc' := 58) rfl ?_
          refine xw_if_lt C (tgt := 70) d_Md_one_58 (by decide) (pc' := 61) rfl (fun h58 => ?_) (fun h58 => ?_)
          ·
            refine xw_iconst C (v := (-1)) d_Md_one_70 (by decide) (pc' := 71) rfl ?_
            refine xw_iret C hr hlk (F := zW ca ad) M57 rfl ?_ d_Md_one_71
            rw [mdF_none (own := (fun x => sp_at st ln tk k x)) hq, hM57, hM1]; exact ⟨rfl, rfl⟩
          ·
            exact absurd (by decide) h58
        ·
          refine xw_topi (y := nI t) rfl ?_
          have htn := hat _ _ hq
          have htt := hT.2.2 t htn
          refine xw_istore_n C d_Md_one_46 rfl (by decide) rfl (pc' := 47) rfl ?_
          refine xw_aload_n C 1 d_Md_one_47 rfl rfl (pc' := 48) rfl ?_
          refine xw_dup C d_Md_one_48 rfl (pc' := 49) rfl ?_
          refine xw_get C u_Md 38 zr_38 rfl 14 (by decide) k_584 rfl rfl d_Md_one_49 (pc' := 52) rfl ?_
          refine xw_topi (y := nI tm) ((hk1 _ _ (by omega)).trans htime) ?_
          refine xw_iconst C (v := nI 1) d_Md_one_52 (by decide) (pc' := 53) rfl ?_
          refine xw_iadd C d_Md_one_53 (pc' := 54) rfl ?_
          refine xw_topi (y := nI (tm + 1)) (nI_add _ _) ?_
          obtain ⟨M58, hM58⟩ : ∃ zq, zq = zst M1 38 4 (nI (tm + 1)) := ⟨_, rfl⟩
          refine xw_put C u_Md t_Md t_Md_ok n_Md 38 zr_38 rfl 14 (by decide) k_584 rfl rfl (t_Md_ok 14 (by decide)) rfl rfl (Nat.le_of_ble_eq_true rfl) (ws' := zW ca ad M58) (by rw [hM58]; exact zs_38_4 _) d_Md_one_54 (pc' := 57) rfl ?_
          have hk2 : ∀ a b, a ≠ 38 → M58 a b = M1 a b := fun a b h1 => by rw [hM58, zst_ap, if_neg (fun q => h1 q.1)]
          refine xw_iload_n C 0 d_Md_one_57 rfl rfl (pc' := 58) rfl ?_
          refine xw_if_lt C (tgt := 70) d_Md_one_58 (by decide) (pc' := 61) rfl (fun h58 => ?_) (fun h58 => ?_)
          ·
            replace h58 : t < 0 := (xp_lt0 (by omega)).mp h58
            omega
          ·
            replace h58 : ¬ (t < 0) := fun hneg => h58 ((xp_lt0 (by omega)).mpr hneg)
            refine xw_aload_n C 1 d_Md_one_61 rfl rfl (pc' := 62) rfl ?_
            refine xw_get C u_Md 38 zr_38 rfl 15 (by decide) k_585 rfl rfl d_Md_one_62 (pc' := 65) rfl ?_
            refine xw_iload_n C 0 d_Md_one_65 rfl rfl (pc' := 66) rfl ?_
            refine xw_zald C 49 2 zr_49 rfl t rfl (by omega) (by decide) d_Md_one_66 (pc' := 67) rfl ?_
            rcases hJ1 t htn with hop | ⟨hop, pl, hd, hpb, hhb, hpl, hhd⟩
            ·
              refine xw_topi (y := nI 0) ((hk2 _ _ (by omega)).trans hop) ?_
              refine xw_if_ne C (tgt := 72) d_Md_one_67 (by decide) (pc' := 70) rfl (fun h67 => ?_) (fun h67 => ?_)
              ·
                replace h67 : ¬ (0 = 0) := fun hneg => h67 ((xp_eq0 (by omega)).mpr hneg)
                omega
              ·
                replace h67 : 0 = 0 := (xp_eq0 (by omega)).mp h67
                refine xw_iconst C (v := (-1)) d_Md_one_70 (by decide) (pc' := 71) rfl ?_
                refine xw_iret C hr hlk (F := zW ca ad) M58 rfl ?_ d_Md_one_71
                rw [mdF_idle (own := (fun x => sp_at st ln tk k x)) hq (by rw [← hM1]; exact hop), hM58, hM1]; exact ⟨rfl, rfl⟩
            ·
              refine xw_topi (y := nI 1) ((hk2 _ _ (by omega)).trans hop) ?_
              refine xw_if_ne C (tgt := 72) d_Md_one_67 (by decide) (pc' := 70) rfl (fun h67 => ?_) (fun h67 => ?_)
              ·
                replace h67 : ¬ (1 = 0) := fun hneg => h67 ((xp_eq0 (by omega)).mpr hneg)
                refine xw_aload_n C 1 d_Md_one_72 rfl rfl (pc' := 73) rfl ?_
                refine xw_iload_n C 0 d_Md_one_73 rfl rfl (pc' := 74) rfl ?_
                refine xw_callVi C (c_Md_instruct l D ca ad M58 t pl (by omega) ((hk2 _ _ (by omega)).trans hpl) hpb) ⟨zg_B C 1 k_742 k_31 k_745 q_Md_instruct ⟨by decide, by decide⟩, C.2.2.2.2.1 _ k_744, C.2.2.2.2.1 _ k_22⟩ 38 zr_38 rfl rfl (fun _ _ _ _ h => h) (fun _ _ _ _ _ _ _ => trivial) rfl rfl (Nat.le_of_ble_eq_true rfl) d_Md_one_74 ⟨by decide, by decide⟩ (pc' := 77) rfl (fun r59 M60 hp61 => ?_)
                obtain ⟨hM60, hre⟩ := hp61
                rw [hre]
                clear hre
                obtain ⟨o, ho⟩ : ∃ zq, zq = lowb 4 (M58 47 pl) := ⟨_, rfl⟩
                rw [← ho]
                have hmo := mc_out_le o
                have hk3 : ∀ a b, ¬ (a = 52 ∧ b = t) → a ≠ 53 → a ≠ 48 → M60 a b = M58 a b := fun a b h1 h2 h3 => by rw [hM60]; exact zInY_out h1 h2 h3
                have hhd3 : M60 51 t = nI hd := (hk3 _ _ (by omega) (by omega) (by omega)).trans ((hk2 _ _ (by omega)).trans hhd)
                have hwk3 : M60 40 t = nI (wk t) := (hk3 _ _ (by omega) (by omega) (by omega)).trans ((hk2 _ _ (by omega)).trans ((hk1 _ _ (by omega)).trans htt.2.1))
                refine xw_istore_n C d_Md_one_77 rfl (by decide) rfl (pc' := 78) rfl ?_
                refine xw_aload_n C 2 d_Md_one_78 rfl rfl (pc' := 79) rfl ?_
                refine xw_get C u_Md 38 zr_38 rfl 17 (by decide) k_587 rfl rfl d_Md_one_79 (pc' := 82) rfl ?_
                refine xw_iload_n C 1 d_Md_one_82 rfl rfl (pc' := 83) rfl ?_
                refine xw_dup2_11 C d_Md_one_83 rfl rfl (pc' := 84) rfl ?_
                refine xw_iald C 51 0 zr_51 rfl t rfl (by omega) (by decide) d_Md_one_84 (pc' := 85) rfl ?_
                refine xw_topi (y := nI hd) hhd3 ?_
                refine xw_iconst C (v := nI 1) d_Md_one_85 (by decide) (pc' := 86) rfl ?_
                refine xw_iadd C d_Md_one_86 (pc' := 87) rfl ?_
                refine xw_topi (y := nI (hd + 1)) (nI_add _ _) ?_
                obtain ⟨M62, hM62⟩ : ∃ zq, zq = zst M60 51 t (nI (hd + 1)) := ⟨_, rfl⟩
                have t51_t_M62 : M62 51 t = nI (hd + 1) := by rw [hM62, zst_ap, if_pos ⟨rfl, rfl⟩]
                have t40_t_M62 : M62 40 t = nI (wk t) := by rw [hM62, zst_ap, if_neg (by omega)]; exact hwk3
                refine xw_iast C 51 0 zr_51 rfl t rfl (by omega) (by decide) (ws' := zW ca ad M62) (by rw [hM62]; exact zs_51 _ _) d_Md_one_87 (pc' := 88) rfl ?_
                refine xw_iload_n C 0 d_Md_one_88 rfl rfl (pc' := 89) rfl ?_
                refine xw_if_ne C (tgt := 111) d_Md_one_89 (by decide) (pc' := 92) rfl (fun h89 => ?_) (fun h89 => ?_)
                ·
                  replace h89 : ¬ ((mc_out o) = 0) := fun hneg => h89 ((xp_eq0 (by omega)).mpr hneg)
                  refine xw_iload_n C 0 d_Md_one_111 rfl rfl (pc' := 112) rfl ?_
                  refine xw_istore_n C d_Md_one_112 rfl (by decide) rfl (pc' := 113) rfl ?_
                  refine xw_iload_n C 0 d_Md_one_113 rfl rfl (pc' := 114) rfl ?_
                  refine xw_if_ne C (tgt := 119) d_Md_one_114 (by decide) (pc' := 117) rfl (fun h114 => ?_) (fun h114 => ?_)
                  ·
                    replace h114 : ¬ ((mc_out o) = 0) := fun hneg => h114 ((xp_eq0 (by omega)).mpr hneg)
                    refine xw_aload_n C 2 d_Md_one_119 rfl rfl (pc' := 120) rfl ?_
                    refine xw_get C u_Md 38 zr_38 rfl 15 (by decide) k_585 rfl rfl d_Md_one_120 (pc' := 123) rfl ?_
                    refine xw_iload_n C 1 d_Md_one_123 rfl rfl (pc' := 124) rfl ?_
                    refine xw_iconst C (v := nI 0) d_Md_one_124 (by decide) (pc' := 125) rfl ?_
                    obtain ⟨M63, hM63⟩ : ∃ zq, zq = zst M62 49 t (nI 0) := ⟨_, rfl⟩
                    have t51_t_M63 : M63 51 t = nI (hd + 1) := by rw [hM63, zst_ap, if_neg (by omega)]; exact t51_t_M62
                    have t40_t_M63 : M63 40 t = nI (wk t) := by rw [hM63, zst_ap, if_neg (by omega)]; exact t40_t_M62
                    refine xw_zast C 49 2 zr_49 rfl t rfl (by omega) (by decide) (ws' := zW ca ad M63) (by rw [hM63, xp_v0]; exact zs_49 _ _) d_Md_one_125 (pc' := 126) rfl ?_
                    refine xw_aload_n C 2 d_Md_one_126 rfl rfl (pc' := 127) rfl ?_
                    refine xw_get C u_Md 38 zr_38 rfl 20 (by decide) k_590 rfl rfl d_Md_one_127 (pc' := 130) rfl ?_
                    refine xw_iconst C (v := nI 4) d_Md_one_130 (by decide) (pc' := 131) rfl ?_
                    refine xw_iload_n C 1 d_Md_one_131 rfl rfl (pc' := 132) rfl ?_
                    refine xw_imul C d_Md_one_132 (pc' := 133) rfl ?_
                    refine xw_topi (y := nI (4 * t)) (pk_mul _ _) ?_
                    refine xw_iload_n C 0 d_Md_one_133 rfl rfl (pc' := 134) rfl ?_
                    refine xw_iadd C d_Md_one_134 (pc' := 135) rfl ?_
                    refine xw_topi (y := nI ((4 * t) + (mc_out o))) (nI_add _ _) ?_
                    refine xw_iconst C (v := nI 1) d_Md_one_135 (by decide) (pc' := 136) rfl ?_
                    refine xw_isub C d_Md_one_136 (pc' := 137) rfl ?_
                    refine xw_topi (y := nI (((4 * t) + (mc_out o)) - 1)) (pk_sub (by omega)) ?_
                    refine xw_dup2_11 C d_Md_one_137 rfl rfl (pc' := 138) rfl ?_
                    refine xw_iald C 54 0 zr_54 rfl (((4 * t) + (mc_out o)) - 1) rfl (by omega) (by decide) d_Md_one_138 (pc' := 139) rfl ?_
                    refine xw_iconst C (v := nI 1) d_Md_one_139 (by decide) (pc' := 140) rfl ?_
                    refine xw_iadd C d_Md_one_140 (pc' := 141) rfl ?_
                    obtain ⟨M64, hM64⟩ : ∃ zq, zq = zst M63 54 (((4 * t) + (mc_out o)) - 1) ((M63 54 (((4 * t) + (mc_out o)) - 1)) + (nI 1)) := ⟨_, rfl⟩
                    have t51_t_M64 : M64 51 t = nI (hd + 1) := by rw [hM64, zst_ap, if_neg (by omega)]; exact t51_t_M63
                    have t40_t_M64 : M64 40 t = nI (wk t) := by rw [hM64, zst_ap, if_neg (by omega)]; exact t40_t_M63
                    refine xw_iast C 54 0 zr_54 rfl (((4 * t) + (mc_out o)) - 1) rfl (by omega) (by decide) (ws' := zW ca ad M64) (by rw [hM64]; exact zs_54 _ _) d_Md_one_141 (pc' := 142) rfl ?_
                    refine xw_aload_n C 2 d_Md_one_142 rfl rfl (pc' := 143) rfl ?_
                    refine xw_get C u_Md 38 zr_38 rfl 14 (by decide) k_584 rfl rfl d_Md_one_143 (pc' := 146) rfl ?_
                    refine xw_aload_n C 2 d_Md_one_146 rfl rfl (pc' := 147) rfl ?_
                    refine xw_get C u_Md 38 zr_38 rfl 16 (by decide) k_586 rfl rfl d_Md_one_147 (pc' := 150) rfl ?_
                    refine xw_iload_n C 1 d_Md_one_150 rfl rfl (pc' := 151) rfl ?_
                    refine xw_iald C 50 0 zr_50 rfl t rfl (by omega) (by decide) d_Md_one_151 (pc' := 152) rfl ?_
                    refine xw_isub C d_Md_one_152 (pc' := 153) rfl ?_
                    refine xw_istore_n C d_Md_one_153 rfl (by decide) rfl (pc' := 154) rfl ?_
                    refine xw_iload_n C 1 d_Md_one_154 rfl rfl (pc' := 155) rfl ?_
                    refine xw_iconst C (v := nI 1) d_Md_one_155 (by decide) (pc' := 156) rfl ?_
                    refine xw_icmp_ne C (tgt := 184) d_Md_one_156 (by decide) (pc' := 159) rfl (fun h156 => ?_) (fun h156 => ?_)
                    ·
                      replace h156 : ¬ ((mc_out o) = 1) := fun hneg => h156 ((nI_eq (by omega) (by omega)).mpr hneg)
                      refine xw_iload_n C 2 d_Md_one_184 rfl rfl (pc' := 185) rfl ?_
                      refine xw_bipush C (v := nI 100) d_Md_one_185 (by decide) (pc' := 187) rfl ?_
                      refine xw_iload_n C 1 d_Md_one_187 rfl rfl (pc' := 188) rfl ?_
                      refine xw_imul C d_Md_one_188 (pc' := 189) rfl ?_
                      refine xw_topi (y := nI (100 * (mc_out o))) (pk_mul _ _) ?_
                      refine xw_iadd C d_Md_one_189 (pc' := 190) rfl ?_
                      refine xw_topi (y := nI (t + (100 * (mc_out o)))) (nI_add _ _) ?_
                      refine xw_iret C hr hlk (F := zW ca ad) M64 rfl ?_ d_Md_one_190
                      have hsv : sv_out o hd (wk t) = (mc_out o) := if_neg (by omega)
                      have ho2 : o = lowb 4 (M1 47 pl) := by rw [ho, hk2 _ _ (by omega)]
                      have hE : M64 = zEnY1 M62 t (mc_out o) := by rw [hM64, hM63]; rfl
                      rw [mdF_busy (pl := pl) (hd := hd) (own := (fun x => sp_at st ln tk k x)) hq (by rw [← hM1]; exact hop) (by rw [← hM1]; exact hpl) (by rw [← hM1]; exact hhd) hpb (by omega), ← hM1, ← hM58, ← ho2, hsv]
                      refine ⟨?_, rfl⟩
                      unfold zSvY
                      rw [← ho, hsv, if_neg (by omega), ← hM60, ← hM62]
                      unfold zEnY
                      rw [← hE]
                      rw [if_neg (fun q => by first | exact h156 q.1 | exact Int32.not_lt.mpr h170 q.2)]
                    ·
                      replace h156 : (mc_out o) = 1 := (nI_eq (by omega) (by omega)).mp h156
                      refine xw_iload_n C 0 d_Md_one_159 rfl rfl (pc' := 160) rfl ?_
                      refine xw_aload_n C 3 d_Md_one_160 rfl rfl (pc' := 161) rfl ?_
                      refine xw_get C u_Md 38 zr_38 rfl 20 (by decide) k_590 rfl rfl d_Md_one_161 (pc' := 164) rfl ?_
                      refine xw_iconst C (v := nI 4) d_Md_one_164 (by decide) (pc' := 165) rfl ?_
                      refine xw_iload_n C 2 d_Md_one_165 rfl rfl (pc' := 166) rfl ?_
                      refine xw_imul C d_Md_one_166 (pc' := 167) rfl ?_
                      refine xw_topi (y := nI (4 * t)) (pk_mul _ _) ?_
                      refine xw_iconst C (v := nI 3) d_Md_one_167 (by decide) (pc' := 168) rfl ?_
                      refine xw_iadd C d_Md_one_168 (pc' := 169) rfl ?_
                      refine xw_topi (y := nI ((4 * t) + 3)) (nI_add _ _) ?_
                      refine xw_iald C 54 0 zr_54 rfl ((4 * t) + 3) rfl (by omega) (by decide) d_Md_one_169 (pc' := 170) rfl ?_
                      refine xw_icmp_le C (tgt := 184) d_Md_one_170 (by decide) (pc' := 173) rfl (fun h170 => ?_) (fun h170 => ?_)
                      ·
                        refine xw_iload_n C 2 d_Md_one_184 rfl rfl (pc' := 185) rfl ?_
                        refine xw_bipush C (v := nI 100) d_Md_one_185 (by decide) (pc' := 187) rfl ?_
                        refine xw_iload_n C 1 d_Md_one_187 rfl rfl (pc' := 188) rfl ?_
                        refine xw_imul C d_Md_one_188 (pc' := 189) rfl ?_
                        refine xw_topi (y := nI (100 * (mc_out o))) (pk_mul _ _) ?_
                        refine xw_iadd C d_Md_one_189 (pc' := 190) rfl ?_
                        refine xw_topi (y := nI (t + (100 * (mc_out o)))) (nI_add _ _) ?_
                        refine xw_iret C hr hlk (F := zW ca ad) M64 rfl ?_ d_Md_one_190
                        have hsv : sv_out o hd (wk t) = (mc_out o) := if_neg (by omega)
                        have ho2 : o = lowb 4 (M1 47 pl) := by rw [ho, hk2 _ _ (by omega)]
                        have hE : M64 = zEnY1 M62 t (mc_out o) := by rw [hM64, hM63]; rfl
                        rw [mdF_busy (pl := pl) (hd := hd) (own := (fun x => sp_at st ln tk k x)) hq (by rw [← hM1]; exact hop) (by rw [← hM1]; exact hpl) (by rw [← hM1]; exact hhd) hpb (by omega), ← hM1, ← hM58, ← ho2, hsv]
                        refine ⟨?_, rfl⟩
                        unfold zSvY
                        rw [← ho, hsv, if_neg (by omega), ← hM60, ← hM62]
                        unfold zEnY
                        rw [← hE]
                        rw [if_neg (fun q => by first | exact h156 q.1 | exact Int32.not_lt.mpr h170 q.2)]
                      ·
                        refine xw_aload_n C 3 d_Md_one_173 rfl rfl (pc' := 174) rfl ?_
                        refine xw_get C u_Md 38 zr_38 rfl 20 (by decide) k_590 rfl rfl d_Md_one_174 (pc' := 177) rfl ?_
                        refine xw_iconst C (v := nI 4) d_Md_one_177 (by decide) (pc' := 178) rfl ?_
                        refine xw_iload_n C 2 d_Md_one_178 rfl rfl (pc' := 179) rfl ?_
                        refine xw_imul C d_Md_one_179 (pc' := 180) rfl ?_
                        refine xw_topi (y := nI (4 * t)) (pk_mul _ _) ?_
                        refine xw_iconst C (v := nI 3) d_Md_one_180 (by decide) (pc' := 181) rfl ?_
                        refine xw_iadd C d_Md_one_181 (pc' := 182) rfl ?_
                        refine xw_topi (y := nI ((4 * t) + 3)) (nI_add _ _) ?_
                        refine xw_iload_n C 0 d_Md_one_182 rfl rfl (pc' := 183) rfl ?_
                        obtain ⟨M65, hM65⟩ : ∃ zq, zq = zst M64 54 ((4 * t) + 3) ((M64 38 4) - (M64 50 t)) := ⟨_, rfl⟩
                        have t51_t_M65 : M65 51 t = nI (hd + 1) := by rw [hM65, zst_ap, if_neg (by omega)]; exact t51_t_M64
                        have t40_t_M65 : M65 40 t = nI (wk t) := by rw [hM65, zst_ap, if_neg (by omega)]; exact t40_t_M64
                        refine xw_iast C 54 0 zr_54 rfl ((4 * t) + 3) rfl (by omega) (by decide) (ws' := zW ca ad M65) (by rw [hM65]; exact zs_54 _ _) d_Md_one_183 (pc' := 184) rfl ?_
                        refine xw_iload_n C 2 d_Md_one_184 rfl rfl (pc' := 185) rfl ?_
                        refine xw_bipush C (v := nI 100) d_Md_one_185 (by decide) (pc' := 187) rfl ?_
                        refine xw_iload_n C 1 d_Md_one_187 rfl rfl (pc' := 188) rfl ?_
                        refine xw_imul C d_Md_one_188 (pc' := 189) rfl ?_
                        refine xw_topi (y := nI (100 * (mc_out o))) (pk_mul _ _) ?_
                        refine xw_iadd C d_Md_one_189 (pc' := 190) rfl ?_
                        refine xw_topi (y := nI (t + (100 * (mc_out o)))) (nI_add _ _) ?_
                        refine xw_iret C hr hlk (F := zW ca ad) M65 rfl ?_ d_Md_one_190
                        have hsv : sv_out o hd (wk t) = (mc_out o) := if_neg (by omega)
                        have ho2 : o = lowb 4 (M1 47 pl) := by rw [ho, hk2 _ _ (by omega)]
                        have hE : M64 = zEnY1 M62 t (mc_out o) := by rw [hM64, hM63]; rfl
                        rw [mdF_busy (pl := pl) (hd := hd) (own := (fun x => sp_at st ln tk k x)) hq (by rw [← hM1]; exact hop) (by rw [← hM1]; exact hpl) (by rw [← hM1]; exact hhd) hpb (by omega), ← hM1, ← hM58, ← ho2, hsv]
                        refine ⟨?_, rfl⟩
                        unfold zSvY
                        rw [← ho, hsv, if_neg (by omega), ← hM60, ← hM62]
                        unfold zEnY
                        rw [← hE]
                        rw [if_pos ⟨h156, Int32.not_le.mp h170⟩]
                        exact hM65
                  ·
                    replace h114 : (mc_out o) = 0 := (xp_eq0 (by omega)).mp h114
                    refine xw_iload_n C 1 d_Md_one_117 rfl rfl (pc' := 118) rfl ?_
                    refine xw_iret C hr hlk (F := zW ca ad) M62 rfl ?_ d_Md_one_118
                    have hsv : sv_out o hd (wk t) = mc_out o := if_neg (by omega)
                    have ho2 : o = lowb 4 (M1 47 pl) := by rw [ho, hk2 _ _ (by omega)]
                    rw [mdF_busy (pl := pl) (hd := hd) (own := (fun x => sp_at st ln tk k x)) hq (by rw [← hM1]; exact hop) (by rw [← hM1]; exact hpl) (by rw [← hM1]; exact hhd) hpb (by omega), ← hM1, ← hM58, ← ho2, hsv, h114]
                    refine ⟨?_, rfl⟩
                    unfold zSvY
                    rw [← ho, hsv, if_pos h114, hM62, hM60]
                ·
                  replace h89 : (mc_out o) = 0 := (xp_eq0 (by omega)).mp h89
                  refine xw_aload_n C 2 d_Md_one_92 rfl rfl (pc' := 93) rfl ?_
                  refine xw_get C u_Md 38 zr_38 rfl 17 (by decide) k_587 rfl rfl d_Md_one_93 (pc' := 96) rfl ?_
                  refine xw_iload_n C 1 d_Md_one_96 rfl rfl (pc' := 97) rfl ?_
                  refine xw_iald C 51 0 zr_51 rfl t rfl (by omega) (by decide) d_Md_one_97 (pc' := 98) rfl ?_
                  refine xw_topi (y := nI (hd + 1)) t51_t_M62 ?_
                  refine xw_aload_n C 2 d_Md_one_98 rfl rfl (pc' := 99) rfl ?_
                  refine xw_get C u_Md 38 zr_38 rfl 4 (by decide) k_574 rfl rfl d_Md_one_99 (pc' := 102) rfl ?_
                  refine xw_iload_n C 1 d_Md_one_102 rfl rfl (pc' := 103) rfl ?_
                  refine xw_iald C 40 0 zr_40 rfl t rfl (by omega) (by decide) d_Md_one_103 (pc' := 104) rfl ?_
                  refine xw_topi (y := nI (wk t)) t40_t_M62 ?_
                  refine xw_icmp_ne C (tgt := 111) d_Md_one_104 (by decide) (pc' := 107) rfl (fun h104 => ?_) (fun h104 => ?_)
                  ·
                    replace h104 : ¬ ((hd + 1) = (wk t)) := fun hneg => h104 ((nI_eq (by omega) (by omega)).mpr hneg)
                    refine xw_iload_n C 0 d_Md_one_111 rfl rfl (pc' := 112) rfl ?_
                    refine xw_istore_n C d_Md_one_112 rfl (by decide) rfl (pc' := 113) rfl ?_
                    refine xw_iload_n C 0 d_Md_one_113 rfl rfl (pc' := 114) rfl ?_
                    refine xw_if_ne C (tgt := 119) d_Md_one_114 (by decide) (pc' := 117) rfl (fun h114 => ?_) (fun h114 => ?_)
                    ·
                      replace h114 : ¬ ((mc_out o) = 0) := fun hneg => h114 ((xp_eq0 (by omega)).mpr hneg)
                      refine xw_aload_n C 2 d_Md_one_119 rfl rfl (pc' := 120) rfl ?_
                      refine xw_get C u_Md 38 zr_38 rfl 15 (by decide) k_585 rfl rfl d_Md_one_120 (pc' := 123) rfl ?_
                      refine xw_iload_n C 1 d_Md_one_123 rfl rfl (pc' := 124) rfl ?_
                      refine xw_iconst C (v := nI 0) d_Md_one_124 (by decide) (pc' := 125) rfl ?_
                      obtain ⟨M66, hM66⟩ : ∃ zq, zq = zst M62 49 t (nI 0) := ⟨_, rfl⟩
                      have t51_t_M66 : M66 51 t = nI (hd + 1) := by rw [hM66, zst_ap, if_neg (by omega)]; exact t51_t_M62
                      have t40_t_M66 : M66 40 t = nI (wk t) := by rw [hM66, zst_ap, if_neg (by omega)]; exact t40_t_M62
                      refine xw_zast C 49 2 zr_49 rfl t rfl (by omega) (by decide) (ws' := zW ca ad M66) (by rw [hM66, xp_v0]; exact zs_49 _ _) d_Md_one_125 (pc' := 126) rfl ?_
                      refine xw_aload_n C 2 d_Md_one_126 rfl rfl (pc' := 127) rfl ?_
                      refine xw_get C u_Md 38 zr_38 rfl 20 (by decide) k_590 rfl rfl d_Md_one_127 (pc' := 130) rfl ?_
                      refine xw_iconst C (v := nI 4) d_Md_one_130 (by decide) (pc' := 131) rfl ?_
                      refine xw_iload_n C 1 d_Md_one_131 rfl rfl (pc' := 132) rfl ?_
                      refine xw_imul C d_Md_one_132 (pc' := 133) rfl ?_
                      refine xw_topi (y := nI (4 * t)) (pk_mul _ _) ?_
                      refine xw_iload_n C 0 d_Md_one_133 rfl rfl (pc' := 134) rfl ?_
                      refine xw_iadd C d_Md_one_134 (pc' := 135) rfl ?_
                      refine xw_topi (y := nI ((4 * t) + (mc_out o))) (nI_add _ _) ?_
                      refine xw_iconst C (v := nI 1) d_Md_one_135 (by decide) (pc' := 136) rfl ?_
                      refine xw_isub C d_Md_one_136 (pc' := 137) rfl ?_
                      refine xw_topi (y := nI (((4 * t) + (mc_out o)) - 1)) (pk_sub (by omega)) ?_
                      refine xw_dup2_11 C d_Md_one_137 rfl rfl (pc' := 138) rfl ?_
                      refine xw_iald C 54 0 zr_54 rfl (((4 * t) + (mc_out o)) - 1) rfl (by omega) (by decide) d_Md_one_138 (pc' := 139) rfl ?_
                      refine xw_iconst C (v := nI 1) d_Md_one_139 (by decide) (pc' := 140) rfl ?_
                      refine xw_iadd C d_Md_one_140 (pc' := 141) rfl ?_
                      obtain ⟨M67, hM67⟩ : ∃ zq, zq = zst M66 54 (((4 * t) + (mc_out o)) - 1) ((M66 54 (((4 * t) + (mc_out o)) - 1)) + (nI 1)) := ⟨_, rfl⟩
                      have t51_t_M67 : M67 51 t = nI (hd + 1) := by rw [hM67, zst_ap, if_neg (by omega)]; exact t51_t_M66
                      have t40_t_M67 : M67 40 t = nI (wk t) := by rw [hM67, zst_ap, if_neg (by omega)]; exact t40_t_M66
                      refine xw_iast C 54 0 zr_54 rfl (((4 * t) + (mc_out o)) - 1) rfl (by omega) (by decide) (ws' := zW ca ad M67) (by rw [hM67]; exact zs_54 _ _) d_Md_one_141 (pc' := 142) rfl ?_
                      refine xw_aload_n C 2 d_Md_one_142 rfl rfl (pc' := 143) rfl ?_
                      refine xw_get C u_Md 38 zr_38 rfl 14 (by decide) k_584 rfl rfl d_Md_one_143 (pc' := 146) rfl ?_
                      refine xw_aload_n C 2 d_Md_one_146 rfl rfl (pc' := 147) rfl ?_
                      refine xw_get C u_Md 38 zr_38 rfl 16 (by decide) k_586 rfl rfl d_Md_one_147 (pc' := 150) rfl ?_
                      refine xw_iload_n C 1 d_Md_one_150 rfl rfl (pc' := 151) rfl ?_
                      refine xw_iald C 50 0 zr_50 rfl t rfl (by omega) (by decide) d_Md_one_151 (pc' := 152) rfl ?_
                      refine xw_isub C d_Md_one_152 (pc' := 153) rfl ?_
                      refine xw_istore_n C d_Md_one_153 rfl (by decide) rfl (pc' := 154) rfl ?_
                      refine xw_iload_n C 1 d_Md_one_154 rfl rfl (pc' := 155) rfl ?_
                      refine xw_iconst C (v := nI 1) d_Md_one_155 (by decide) (pc' := 156) rfl ?_
                      refine xw_icmp_ne C (tgt := 184) d_Md_one_156 (by decide) (pc' := 159) rfl (fun h156 => ?_) (fun h156 => ?_)
                      ·
                        replace h156 : ¬ ((mc_out o) = 1) := fun hneg => h156 ((nI_eq (by omega) (by omega)).mpr hneg)
                        refine xw_iload_n C 2 d_Md_one_184 rfl rfl (pc' := 185) rfl ?_
                        refine xw_bipush C (v := nI 100) d_Md_one_185 (by decide) (pc' := 187) rfl ?_
                        refine xw_iload_n C 1 d_Md_one_187 rfl rfl (pc' := 188) rfl ?_
                        refine xw_imul C d_Md_one_188 (pc' := 189) rfl ?_
                        refine xw_topi (y := nI (100 * (mc_out o))) (pk_mul _ _) ?_
                        refine xw_iadd C d_Md_one_189 (pc' := 190) rfl ?_
                        refine xw_topi (y := nI (t + (100 * (mc_out o)))) (nI_add _ _) ?_
                        refine xw_iret C hr hlk (F := zW ca ad) M67 rfl ?_ d_Md_one_190
                        have hsv : sv_out o hd (wk t) = (mc_out o) := if_neg (by omega)
                        have ho2 : o = lowb 4 (M1 47 pl) := by rw [ho, hk2 _ _ (by omega)]
                        have hE : M67 = zEnY1 M62 t (mc_out o) := by rw [hM67, hM66]; rfl
                        rw [mdF_busy (pl := pl) (hd := hd) (own := (fun x => sp_at st ln tk k x)) hq (by rw [← hM1]; exact hop) (by rw [← hM1]; exact hpl) (by rw [← hM1]; exact hhd) hpb (by omega), ← hM1, ← hM58, ← ho2, hsv]
                        refine ⟨?_, rfl⟩
                        unfold zSvY
                        rw [← ho, hsv, if_neg (by omega), ← hM60, ← hM62]
                        unfold zEnY
                        rw [← hE]
                        rw [if_neg (fun q => by first | exact h156 q.1 | exact Int32.not_lt.mpr h170 q.2)]
                      ·
                        replace h156 : (mc_out o) = 1 := (nI_eq (by omega) (by omega)).mp h156
                        refine xw_iload_n C 0 d_Md_one_159 rfl rfl (pc' := 160) rfl ?_
                        refine xw_aload_n C 3 d_Md_one_160 rfl rfl (pc' := 161) rfl ?_
                        refine xw_get C u_Md 38 zr_38 rfl 20 (by decide) k_590 rfl rfl d_Md_one_161 (pc' := 164) rfl ?_
                        refine xw_iconst C (v := nI 4) d_Md_one_164 (by decide) (pc' := 165) rfl ?_
                        refine xw_iload_n C 2 d_Md_one_165 rfl rfl (pc' := 166) rfl ?_
                        refine xw_imul C d_Md_one_166 (pc' := 167) rfl ?_
                        refine xw_topi (y := nI (4 * t)) (pk_mul _ _) ?_
                        refine xw_iconst C (v := nI 3) d_Md_one_167 (by decide) (pc' := 168) rfl ?_
                        refine xw_iadd C d_Md_one_168 (pc' := 169) rfl ?_
                        refine xw_topi (y := nI ((4 * t) + 3)) (nI_add _ _) ?_
                        refine xw_iald C 54 0 zr_54 rfl ((4 * t) + 3) rfl (by omega) (by decide) d_Md_one_169 (pc' := 170) rfl ?_
                        refine xw_icmp_le C (tgt := 184) d_Md_one_170 (by decide) (pc' := 173) rfl (fun h170 => ?_) (fun h170 => ?_)
                        ·
                          refine xw_iload_n C 2 d_Md_one_184 rfl rfl (pc' := 185) rfl ?_
                          refine xw_bipush C (v := nI 100) d_Md_one_185 (by decide) (pc' := 187) rfl ?_
                          refine xw_iload_n C 1 d_Md_one_187 rfl rfl (pc' := 188) rfl ?_
                          refine xw_imul C d_Md_one_188 (pc' := 189) rfl ?_
                          refine xw_topi (y := nI (100 * (mc_out o))) (pk_mul _ _) ?_
                          refine xw_iadd C d_Md_one_189 (pc' := 190) rfl ?_
                          refine xw_topi (y := nI (t + (100 * (mc_out o)))) (nI_add _ _) ?_
                          refine xw_iret C hr hlk (F := zW ca ad) M67 rfl ?_ d_Md_one_190
                          have hsv : sv_out o hd (wk t) = (mc_out o) := if_neg (by omega)
                          have ho2 : o = lowb 4 (M1 47 pl) := by rw [ho, hk2 _ _ (by omega)]
                          have hE : M67 = zEnY1 M62 t (mc_out o) := by rw [hM67, hM66]; rfl
                          rw [mdF_busy (pl := pl) (hd := hd) (own := (fun x => sp_at st ln tk k x)) hq (by rw [← hM1]; exact hop) (by rw [← hM1]; exact hpl) (by rw [← hM1]; exact hhd) hpb (by omega), ← hM1, ← hM58, ← ho2, hsv]
                          refine ⟨?_, rfl⟩
                          unfold zSvY
                          rw [← ho, hsv, if_neg (by omega), ← hM60, ← hM62]
                          unfold zEnY
                          rw [← hE]
                          rw [if_neg (fun q => by first | exact h156 q.1 | exact Int32.not_lt.mpr h170 q.2)]
                        ·
                          refine xw_aload_n C 3 d_Md_one_173 rfl rfl (pc' := 174) rfl ?_
                          refine xw_get C u_Md 38 zr_38 rfl 20 (by decide) k_590 rfl rfl d_Md_one_174 (pc' := 177) rfl ?_
                          refine xw_iconst C (v := nI 4) d_Md_one_177 (by decide) (pc' := 178) rfl ?_
                          refine xw_iload_n C 2 d_Md_one_178 rfl rfl (pc' := 179) rfl ?_
                          refine xw_imul C d_Md_one_179 (pc' := 180) rfl ?_
                          refine xw_topi (y := nI (4 * t)) (pk_mul _ _) ?_
                          refine xw_iconst C (v := nI 3) d_Md_one_180 (by decide) (pc' := 181) rfl ?_
                          refine xw_iadd C d_Md_one_181 (pc' := 182) rfl ?_
                          refine xw_topi (y := nI ((4 * t) + 3)) (nI_add _ _) ?_
                          refine xw_iload_n C 0 d_Md_one_182 rfl rfl (pc' := 183) rfl ?_
                          obtain ⟨M68, hM68⟩ : ∃ zq, zq = zst M67 54 ((4 * t) + 3) ((M67 38 4) - (M67 50 t)) := ⟨_, rfl⟩
                          have t51_t_M68 : M68 51 t = nI (hd + 1) := by rw [hM68, zst_ap, if_neg (by omega)]; exact t51_t_M67
                          have t40_t_M68 : M68 40 t = nI (wk t) := by rw [hM68, zst_ap, if_neg (by omega)]; exact t40_t_M67
                          refine xw_iast C 54 0 zr_54 rfl ((4 * t) + 3) rfl (by omega) (by decide) (ws' := zW ca ad M68) (by rw [hM68]; exact zs_54 _ _) d_Md_one_183 (pc' := 184) rfl ?_
                          refine xw_iload_n C 2 d_Md_one_184 rfl rfl (pc' := 185) rfl ?_
                          refine xw_bipush C (v := nI 100) d_Md_one_185 (by decide) (pc' := 187) rfl ?_
                          refine xw_iload_n C 1 d_Md_one_187 rfl rfl (pc' := 188) rfl ?_
                          refine xw_imul C d_Md_one_188 (pc' := 189) rfl ?_
                          refine xw_topi (y := nI (100 * (mc_out o))) (pk_mul _ _) ?_
                          refine xw_iadd C d_Md_one_189 (pc' := 190) rfl ?_
                          refine xw_topi (y := nI (t + (100 * (mc_out o)))) (nI_add _ _) ?_
                          refine xw_iret C hr hlk (F := zW ca ad) M68 rfl ?_ d_Md_one_190
                          have hsv : sv_out o hd (wk t) = (mc_out o) := if_neg (by omega)
                          have ho2 : o = lowb 4 (M1 47 pl) := by rw [ho, hk2 _ _ (by omega)]
                          have hE : M67 = zEnY1 M62 t (mc_out o) := by rw [hM67, hM66]; rfl
                          rw [mdF_busy (pl := pl) (hd := hd) (own := (fun x => sp_at st ln tk k x)) hq (by rw [← hM1]; exact hop) (by rw [← hM1]; exact hpl) (by rw [← hM1]; exact hhd) hpb (by omega), ← hM1, ← hM58, ← ho2, hsv]
                          refine ⟨?_, rfl⟩
                          unfold zSvY
                          rw [← ho, hsv, if_neg (by omega), ← hM60, ← hM62]
                          unfold zEnY
                          rw [← hE]
                          rw [if_pos ⟨h156, Int32.not_le.mp h170⟩]
                          exact hM68
                    ·
                      replace h114 : (mc_out o) = 0 := (xp_eq0 (by omega)).mp h114
                      refine xw_iload_n C 1 d_Md_one_117 rfl rfl (pc' := 118) rfl ?_
                      refine xw_iret C hr hlk (F := zW ca ad) M62 rfl ?_ d_Md_one_118
                      have hsv : sv_out o hd (wk t) = mc_out o := if_neg (by omega)
                      have ho2 : o = lowb 4 (M1 47 pl) := by rw [ho, hk2 _ _ (by omega)]
                      rw [mdF_busy (pl := pl) (hd := hd) (own := (fun x => sp_at st ln tk k x)) hq (by rw [← hM1]; exact hop) (by rw [← hM1]; exact hpl) (by rw [← hM1]; exact hhd) hpb (by omega), ← hM1, ← hM58, ← ho2, hsv, h114]
                      refine ⟨?_, rfl⟩
                      unfold zSvY
                      rw [← ho, hsv, if_pos h114, hM62, hM60]
                  ·
                    replace h104 : (hd + 1) = (wk t) := (nI_eq (by omega) (by omega)).mp h104
                    refine xw_iconst C (v := nI 3) d_Md_one_107 (by decide) (pc' := 108) rfl ?_
                    refine xw_goto C (tgt := 112) d_Md_one_108 (by decide) ?_
                    refine xw_istore_n C d_Md_one_112 rfl (by decide) rfl (pc' := 113) rfl ?_
                    refine xw_iload_n C 0 d_Md_one_113 rfl rfl (pc' := 114) rfl ?_
                    refine xw_if_ne C (tgt := 119) d_Md_one_114 (by decide) (pc' := 117) rfl (fun h114 => ?_) (fun h114 => ?_)
                    ·
                      replace h114 : ¬ (3 = 0) := fun hneg => h114 ((xp_eq0 (by omega)).mpr hneg)
                      refine xw_aload_n C 2 d_Md_one_119 rfl rfl (pc' := 120) rfl ?_
                      refine xw_get C u_Md 38 zr_38 rfl 15 (by decide) k_585 rfl rfl d_Md_one_120 (pc' := 123) rfl ?_
                      refine xw_iload_n C 1 d_Md_one_123 rfl rfl (pc' := 124) rfl ?_
                      refine xw_iconst C (v := nI 0) d_Md_one_124 (by decide) (pc' := 125) rfl ?_
                      obtain ⟨M69, hM69⟩ : ∃ zq, zq = zst M62 49 t (nI 0) := ⟨_, rfl⟩
                      have t51_t_M69 : M69 51 t = nI (hd + 1) := by rw [hM69, zst_ap, if_neg (by omega)]; exact t51_t_M62
                      have t40_t_M69 : M69 40 t = nI (wk t) := by rw [hM69, zst_ap, if_neg (by omega)]; exact t40_t_M62
                      refine xw_zast C 49 2 zr_49 rfl t rfl (by omega) (by decide) (ws' := zW ca ad M69) (by rw [hM69, xp_v0]; exact zs_49 _ _) d_Md_one_125 (pc' := 126) rfl ?_
                      refine xw_aload_n C 2 d_Md_one_126 rfl rfl (pc' := 127) rfl ?_
                      refine xw_get C u_Md 38 zr_38 rfl 20 (by decide) k_590 rfl rfl d_Md_one_127 (pc' := 130) rfl ?_
                      refine xw_iconst C (v := nI 4) d_Md_one_130 (by decide) (pc' := 131) rfl ?_
                      refine xw_iload_n C 1 d_Md_one_131 rfl rfl (pc' := 132) rfl ?_
                      refine xw_imul C d_Md_one_132 (pc' := 133) rfl ?_
                      refine xw_topi (y := nI (4 * t)) (pk_mul _ _) ?_
                      refine xw_iload_n C 0 d_Md_one_133 rfl rfl (pc' := 134) rfl ?_
                      refine xw_iadd C d_Md_one_134 (pc' := 135) rfl ?_
                      refine xw_topi (y := nI ((4 * t) + 3)) (nI_add _ _) ?_
                      refine xw_iconst C (v := nI 1) d_Md_one_135 (by decide) (pc' := 136) rfl ?_
                      refine xw_isub C d_Md_one_136 (pc' := 137) rfl ?_
                      refine xw_topi (y := nI (((4 * t) + 3) - 1)) (pk_sub (by omega)) ?_
                      refine xw_dup2_11 C d_Md_one_137 rfl rfl (pc' := 138) rfl ?_
                      refine xw_iald C 54 0 zr_54 rfl (((4 * t) + 3) - 1) rfl (by omega) (by decide) d_Md_one_138 (pc' := 139) rfl ?_
                      refine xw_iconst C (v := nI 1) d_Md_one_139 (by decide) (pc' := 140) rfl ?_
                      refine xw_iadd C d_Md_one_140 (pc' := 141) rfl ?_
                      obtain ⟨M70, hM70⟩ : ∃ zq, zq = zst M69 54 (((4 * t) + 3) - 1) ((M69 54 (((4 * t) + 3) - 1)) + (nI 1)) := ⟨_, rfl⟩
                      have t51_t_M70 : M70 51 t = nI (hd + 1) := by rw [hM70, zst_ap, if_neg (by omega)]; exact t51_t_M69
                      have t40_t_M70 : M70 40 t = nI (wk t) := by rw [hM70, zst_ap, if_neg (by omega)]; exact t40_t_M69
                      refine xw_iast C 54 0 zr_54 rfl (((4 * t) + 3) - 1) rfl (by omega) (by decide) (ws' := zW ca ad M70) (by rw [hM70]; exact zs_54 _ _) d_Md_one_141 (pc' := 142) rfl ?_
                      refine xw_aload_n C 2 d_Md_one_142 rfl rfl (pc' := 143) rfl ?_
                      refine xw_get C u_Md 38 zr_38 rfl 14 (by decide) k_584 rfl rfl d_Md_one_143 (pc' := 146) rfl ?_
                      refine xw_aload_n C 2 d_Md_one_146 rfl rfl (pc' := 147) rfl ?_
                      refine xw_get C u_Md 38 zr_38 rfl 16 (by decide) k_586 rfl rfl d_Md_one_147 (pc' := 150) rfl ?_
                      refine xw_iload_n C 1 d_Md_one_150 rfl rfl (pc' := 151) rfl ?_
                      refine xw_iald C 50 0 zr_50 rfl t rfl (by omega) (by decide) d_Md_one_151 (pc' := 152) rfl ?_
                      refine xw_isub C d_Md_one_152 (pc' := 153) rfl ?_
                      refine xw_istore_n C d_Md_one_153 rfl (by decide) rfl (pc' := 154) rfl ?_
                      refine xw_iload_n C 1 d_Md_one_154 rfl rfl (pc' := 155) rfl ?_
                      refine xw_iconst C (v := nI 1) d_Md_one_155 (by decide) (pc' := 156) rfl ?_
                      refine xw_icmp_ne C (tgt := 184) d_Md_one_156 (by decide) (pc' := 159) rfl (fun h156 => ?_) (fun h156 => ?_)
                      ·
                        replace h156 : ¬ (3 = 1) := fun hneg => h156 ((nI_eq (by omega) (by omega)).mpr hneg)
                        refine xw_iload_n C 2 d_Md_one_184 rfl rfl (pc' := 185) rfl ?_
                        refine xw_bipush C (v := nI 100) d_Md_one_185 (by decide) (pc' := 187) rfl ?_
                        refine xw_iload_n C 1 d_Md_one_187 rfl rfl (pc' := 188) rfl ?_
                        refine xw_imul C d_Md_one_188 (pc' := 189) rfl ?_
                        refine xw_topi (y := nI (100 * 3)) (pk_mul _ _) ?_
                        refine xw_iadd C d_Md_one_189 (pc' := 190) rfl ?_
                        refine xw_topi (y := nI (t + (100 * 3))) (nI_add _ _) ?_
                        refine xw_iret C hr hlk (F := zW ca ad) M70 rfl ?_ d_Md_one_190
                        have hsv : sv_out o hd (wk t) = 3 := if_pos ⟨h89, by omega⟩
                        have ho2 : o = lowb 4 (M1 47 pl) := by rw [ho, hk2 _ _ (by omega)]
                        have hE : M70 = zEnY1 M62 t 3 := by rw [hM70, hM69]; rfl
                        rw [mdF_busy (pl := pl) (hd := hd) (own := (fun x => sp_at st ln tk k x)) hq (by rw [← hM1]; exact hop) (by rw [← hM1]; exact hpl) (by rw [← hM1]; exact hhd) hpb (by omega), ← hM1, ← hM58, ← ho2, hsv]
                        refine ⟨?_, rfl⟩
                        unfold zSvY
                        rw [← ho, hsv, if_neg (by omega), ← hM60, ← hM62]
                        unfold zEnY
                        rw [← hE]
                        rw [if_neg (fun q => by first | exact h156 q.1 | exact Int32.not_lt.mpr h170 q.2)]
                      ·
                        replace h156 : 3 = 1 := (nI_eq (by omega) (by omega)).mp h156
                        omega
                    ·
                      replace h114 : 3 = 0 := (xp_eq0 (by omega)).mp h114
                      omega
              ·
                replace h67 : 1 = 0 := (xp_eq0 (by omega)).mp h67
                omega
      ·
        replace h7 : ¬ (n ≤ i) := fun hneg => h7 ((nI_leI (by omega) (by omega)).mpr hneg)
        refine xw_aload_n C 0 d_Md_one_10 rfl rfl (pc' := 11) rfl ?_
        refine xw_iload_n C 1 d_Md_one_11 rfl rfl (pc' := 12) rfl ?_
        refine xw_aload_n C 0 d_Md_one_12 rfl rfl (pc' := 13) rfl ?_
        refine xw_get C u_Md 38 zr_38 rfl 14 (by decide) k_584 rfl rfl d_Md_one_13 (pc' := 16) rfl ?_
        refine xw_topi (y := nI tm) ((hk1 _ _ (by omega)).trans htime) ?_
        refine xw_callVi C (c_Md_isReleased l D ca ad M1 n per wk dl of i tm hT1 (by omega) (by omega)) ⟨zg_B C 2 k_682 k_31 k_685 q_Md_isReleased ⟨by decide, by decide⟩, C.2.2.2.2.1 _ k_684, C.2.2.2.2.1 _ k_14⟩ 38 zr_38 rfl rfl (fun _ _ _ _ h => h) (fun _ _ _ _ _ _ _ => trivial) rfl rfl (Nat.le_of_ble_eq_true rfl) d_Md_one_16 ⟨by decide, by decide⟩ (pc' := 19) rfl (fun r71 M72 hp73 => ?_)
        obtain ⟨hme, hp73⟩ := hp73
        rw [hme]
        clear hme
        rcases hp73 with ⟨hrl, rfl⟩ | ⟨hrl, rfl⟩
        ·
          refine xw_if_eq C (tgt := 27) d_Md_one_19 (by decide) (pc' := 22) rfl (fun h19 => ?_) (fun h19 => ?_)
          ·
            replace h19 : 1 = 0 := (xp_eq0 (by omega)).mp h19
            omega
          ·
            replace h19 : ¬ (1 = 0) := fun hneg => h19 ((xp_eq0 (by omega)).mpr hneg)
            refine xw_aload_n C 0 d_Md_one_22 rfl rfl (pc' := 23) rfl ?_
            refine xw_iload_n C 1 d_Md_one_23 rfl rfl (pc' := 24) rfl ?_
            refine xw_callVv C (c_Md_release l D ca ad M1 i (by omega)) ⟨zg_B C 1 k_738 k_31 k_741 q_Md_release ⟨by decide, by decide⟩, C.2.2.2.2.1 _ k_740, C.2.2.2.2.1 _ k_21⟩ 38 zr_38 rfl rfl (fun _ _ _ _ h => h) (fun _ _ _ _ _ _ _ => trivial) rfl rfl (Nat.le_of_ble_eq_true rfl) d_Md_one_24 ⟨by decide, by decide⟩ (pc' := 27) rfl (fun M75 hp76 => ?_)
            have hM75 := hp76
            rw [hk1 _ _ (by omega), hk1 _ _ (by omega), htime] at hM75
            refine xw_iinc C 1 (v := nI (i + 1)) d_Md_one_27 rfl (xp_inc1 _) (by decide) rfl (pc' := 30) rfl ?_
            refine xw_goto C (tgt := 2) d_Md_one_30 (by decide) ?_
            refine xw_lv [1, 0] rfl ?_
            exact ih (n - (i + 1)) (by omega) (i + 1) M75 rfl (by omega) (by rw [hM75, hM1]; exact (if_pos hrl).symm)
        ·
          refine xw_if_eq C (tgt := 27) d_Md_one_19 (by decide) (pc' := 22) rfl (fun h19 => ?_) (fun h19 => ?_)
          ·
            replace h19 : 0 = 0 := (xp_eq0 (by omega)).mp h19
            refine xw_iinc C 1 (v := nI (i + 1)) d_Md_one_27 rfl (xp_inc1 _) (by decide) rfl (pc' := 30) rfl ?_
            refine xw_goto C (tgt := 2) d_Md_one_30 (by decide) ?_
            refine xw_lv [1, 0] rfl ?_
            exact ih (n - (i + 1)) (by omega) (i + 1) M1 rfl (by omega) (by rw [hM1]; exact (if_neg hrl).symm)
          ·
            replace h19 : ¬ (0 = 0) := fun hneg => h19 ((xp_eq0 (by omega)).mpr hneg)
            omega
  refine xw_lvE (lv' := [(0, .ref (ad 38))]) rfl ?_
  refine xw_iconst C (v := nI 0) d_Md_one_0 (by decide) (pc' := 1) rfl ?_
  refine xw_istore_n C d_Md_one_1 rfl (by decide) rfl (pc' := 2) rfl ?_
  refine xw_lv [1, 0] rfl ?_
  exact loop1 n 0 M rfl (by omega) rfl
