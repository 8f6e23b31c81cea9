set_option maxHeartbeats 4000000 in
set_option maxRecDepth 100000 in
/-- synthesize -/
theorem c_Md_synthesize (l : Launch) (D : va_G) (ca : Nat → ClassId) (ad : Nat → Nat) (M : Nat → Nat → Int32) (md n : Nat) (per wk dl of : Nat → Nat) (hmd : M 38 1 = nI md) (hmb : md ≤ 1) (hT : tmOK M n per wk dl of) : xw_Mi l y_Md_synthesize (.code y_Md_synthesize b_Md_synthesize 4 (some .int) :: zG) { frames := 2, cells := 0, slots := 0, locals := 47 } D zCl (zT ca) [.ref (ad 38)] (zW ca ad M) (fun _ => True) 0 0 (zW ca ad) (fun r M' => md = 1 ∧ M' = zst M 38 0 (nI 1) ∨ md = 0 ∧ M' 38 0 = nI 0 ∧ (∀ a b, a ≠ 38 → a ≠ 44 → a ≠ 45 → a ≠ 46 → a ≠ 49 → a ≠ 50 → a ≠ 51 → a ≠ 55 → M' a b = M a b) ∧ (∀ b, b ≠ 0 → b ≠ 3 → M' 38 b = M 38 b) ∧ sp_syn n per wk dl of r (M' 38 3) M' 44 45 46) := by
  intro sz
  refine xw_met (cc := b_Md_synthesize) (maxL := 4) (ret := (some .int)) (by decide) rfl (Nat.le_of_ble_eq_true rfl) (fun p e s m args below meth c hr hlk hnm hsz hKs C => ?_)
  have hn6 := hT.1
  have loopT : ∀ h, sp_rd n per h → md = 0 → pl_ok n per wk dl of h → ∀ (d : Nat) (x : Nat) (M1 : Nat → Nat → Int32), h - x = d → x ≤ h → (∀ a b, a ≠ 38 → a ≠ 44 → a ≠ 45 → a ≠ 46 → a ≠ 49 → a ≠ 50 → a ≠ 51 → a ≠ 55 → M1 a b = M a b) → (∀ b, b ≠ 0 → b ≠ 3 → M1 38 b = M 38 b) → M1 38 0 = nI 0 → (∀ y, y < h → M1 55 y = oI (pl_g n per wk dl of h y) ∧ ∀ t, pl_g n per wk dl of h y = some t → t < n) → M1 38 3 = nI (bs (pl_g n per wk dl of h) x).length → (bs (pl_g n per wk dl of h) x).length ≤ 60 → bsR M1 44 45 46 (bs (pl_g n per wk dl of h) x) → XW p l e { frames := 2, cells := 0, slots := 0, locals := 47 } s m args below meth c D zCl (va_A (zW ca ad M) sz) s.heap 4 (zW ca ad M1) 0 0 (MQ below (va_Qi (fun r M' => md = 1 ∧ M' = zst M 38 0 (nI 1) ∨ md = 0 ∧ M' 38 0 = nI 0 ∧ (∀ a b, a ≠ 38 → a ≠ 44 → a ≠ 45 → a ≠ 46 → a ≠ 49 → a ≠ 50 → a ≠ 51 → a ≠ 55 → M' a b = M a b) ∧ (∀ b, b ≠ 0 → b ≠ 3 → M' 38 b = M 38 b) ∧ sp_syn n per wk dl of r (M' 38 3) M' 44 45 46) (xw_B D zCl (zT ca) (va_A (zW ca ad M) sz) (zW ca ad)) (va_A (zW ca ad M) sz)) args s 0 0 (va_A (zW ca ad M) sz)) 99 [(0, .ref (ad 38)), (1, .int (nI h)), (3, .int (nI x))] [] := by
    intro h hrd hmd0 hpok d
    have hh1 := hrd.1
    have hh2 := hrd.2.1
    induction d using Nat.strongRecOn with
    | _ d ih =>
      intro x M1 hd hx hf1 h381 hft1 hg0 hz1 hl1 hR1
      refine xw_iload_n C 2 d_Md_synthesize_99 rfl rfl (pc' := 100) rfl ?_
      refine xw_iload_n C 1 d_Md_synthesize_100 rfl rfl (pc' := 101) rfl ?_
      refine xw_icmp_ge C (tgt := 229) d_Md_synthesize_101 (by decide) (pc' := 104) rfl (fun h101 => ?_) (fun h101 => ?_)
      ·
        replace h101 : h ≤ x := (nI_leI (by omega) (by omega)).mp h101
        refine xw_aload_n C 0 d_Md_synthesize_229 rfl rfl (pc' := 230) rfl ?_
        refine xw_get C u_Md 38 zr_38 rfl 8 (by decide) k_578 rfl rfl d_Md_synthesize_230 (pc' := 233) rfl ?_
        refine xw_topi (y := nI ((bs (pl_g n per wk dl of h) x).length)) hz1 ?_
        refine xw_iret C hr hlk (F := zW ca ad) M1 rfl ?_ d_Md_synthesize_233
        rw [show x = h by omega] at hz1 hl1 hR1 ⊢
        exact Or.inr ⟨hmd0, hft1, hf1, h381, Or.inr ⟨h, hrd, Or.inr (Or.inr ⟨hpok, hl1, rfl, hz1, hR1⟩)⟩⟩
      ·
        replace h101 : ¬ (h ≤ x) := fun hneg => h101 ((nI_leI (by omega) (by omega)).mpr hneg)
        have hgx := hg0 x (by omega)
        rcases hg : pl_g n per wk dl of h x with _ | t
        ·
          have hox : M1 55 x = -1 := by rw [hgx.1, hg]; rfl
          refine xw_iload_n C 2 d_Md_synthesize_104 rfl rfl (pc' := 105) rfl ?_
          refine xw_if_le C (tgt := 152) d_Md_synthesize_105 (by decide) (pc' := 108) rfl (fun h105 => ?_) (fun h105 => ?_)
          ·
            replace h105 : x ≤ 0 := (xp_le0 (by omega)).mp h105
            refine xw_aload_n C 0 d_Md_synthesize_152 rfl rfl (pc' := 153) rfl ?_
            refine xw_get C u_Md 38 zr_38 rfl 21 (by decide) k_591 rfl rfl d_Md_synthesize_153 (pc' := 156) rfl ?_
            refine xw_iload_n C 2 d_Md_synthesize_156 rfl rfl (pc' := 157) rfl ?_
            refine xw_iald C 55 0 zr_55 rfl x rfl (by omega) (by decide) d_Md_synthesize_157 (pc' := 158) rfl ?_
            refine xw_topi (y := (-1)) hox ?_
            refine xw_if_lt C (tgt := 223) d_Md_synthesize_158 (by decide) (pc' := 161) rfl (fun h158 => ?_) (fun h158 => ?_)
            ·
              refine xw_iinc C 2 (v := nI (x + 1)) d_Md_synthesize_223 rfl (xp_inc1 _) (by decide) rfl (pc' := 226) rfl ?_
              refine xw_goto C (tgt := 99) d_Md_synthesize_226 (by decide) ?_
              refine xw_lv [1, 2, 0] rfl ?_
              exact ih (h - (x + 1)) (by omega) (x + 1) M1 rfl (by omega) hf1 h381 hft1 hg0 (by rw [bs_none hg]; exact hz1) (by rw [bs_none hg]; exact hl1) (by rw [bs_none hg]; exact hR1)
            ·
              exact absurd (by decide) h158
          ·
            replace h105 : ¬ (x ≤ 0) := fun hneg => h105 ((xp_le0 (by omega)).mpr hneg)
            refine xw_aload_n C 0 d_Md_synthesize_108 rfl rfl (pc' := 109) rfl ?_
            refine xw_get C u_Md 38 zr_38 rfl 21 (by decide) k_591 rfl rfl d_Md_synthesize_109 (pc' := 112) rfl ?_
            refine xw_iload_n C 2 d_Md_synthesize_112 rfl rfl (pc' := 113) rfl ?_
            refine xw_iald C 55 0 zr_55 rfl x rfl (by omega) (by decide) d_Md_synthesize_113 (pc' := 114) rfl ?_
            refine xw_topi (y := (-1)) hox ?_
            refine xw_aload_n C 0 d_Md_synthesize_114 rfl rfl (pc' := 115) rfl ?_
            refine xw_get C u_Md 38 zr_38 rfl 21 (by decide) k_591 rfl rfl d_Md_synthesize_115 (pc' := 118) rfl ?_
            refine xw_iload_n C 2 d_Md_synthesize_118 rfl rfl (pc' := 119) rfl ?_
            refine xw_iconst C (v := nI 1) d_Md_synthesize_119 (by decide) (pc' := 120) rfl ?_
            refine xw_isub C d_Md_synthesize_120 (pc' := 121) rfl ?_
            refine xw_topi (y := nI (x - 1)) (pk_sub (by omega)) ?_
            have hgp := hg0 (x - 1) (by omega)
            have hop : M1 55 (x - 1) = oI (pl_g n per wk dl of h (x - 1)) := hgp.1
            refine xw_iald C 55 0 zr_55 rfl (x - 1) rfl (by omega) (by decide) d_Md_synthesize_121 (pc' := 122) rfl ?_
            refine xw_topi (y := oI (pl_g n per wk dl of h (x - 1))) hop ?_
            refine xw_icmp_ne C (tgt := 152) d_Md_synthesize_122 (by decide) (pc' := 125) rfl (fun h122 => ?_) (fun h122 => ?_)
            ·
              refine xw_aload_n C 0 d_Md_synthesize_152 rfl rfl (pc' := 153) rfl ?_
              refine xw_get C u_Md 38 zr_38 rfl 21 (by decide) k_591 rfl rfl d_Md_synthesize_153 (pc' := 156) rfl ?_
              refine xw_iload_n C 2 d_Md_synthesize_156 rfl rfl (pc' := 157) rfl ?_
              refine xw_iald C 55 0 zr_55 rfl x rfl (by omega) (by decide) d_Md_synthesize_157 (pc' := 158) rfl ?_
              refine xw_topi (y := (-1)) hox ?_
              refine xw_if_lt C (tgt := 223) d_Md_synthesize_158 (by decide) (pc' := 161) rfl (fun h158 => ?_) (fun h158 => ?_)
              ·
                refine xw_iinc C 2 (v := nI (x + 1)) d_Md_synthesize_223 rfl (xp_inc1 _) (by decide) rfl (pc' := 226) rfl ?_
                refine xw_goto C (tgt := 99) d_Md_synthesize_226 (by decide) ?_
                refine xw_lv [1, 2, 0] rfl ?_
                exact ih (h - (x + 1)) (by omega) (x + 1) M1 rfl (by omega) hf1 h381 hft1 hg0 (by rw [bs_none hg]; exact hz1) (by rw [bs_none hg]; exact hl1) (by rw [bs_none hg]; exact hR1)
              ·
                exact absurd (by decide) h158
            ·
              refine xw_aload_n C 0 d_Md_synthesize_125 rfl rfl (pc' := 126) rfl ?_
              refine xw_get C u_Md 38 zr_38 rfl 21 (by decide) k_591 rfl rfl d_Md_synthesize_126 (pc' := 129) rfl ?_
              refine xw_iload_n C 2 d_Md_synthesize_129 rfl rfl (pc' := 130) rfl ?_
              refine xw_iald C 55 0 zr_55 rfl x rfl (by omega) (by decide) d_Md_synthesize_130 (pc' := 131) rfl ?_
              refine xw_topi (y := (-1)) hox ?_
              refine xw_if_lt C (tgt := 223) d_Md_synthesize_131 (by decide) (pc' := 134) rfl (fun h131 => ?_) (fun h131 => ?_)
              ·
                refine xw_iinc C 2 (v := nI (x + 1)) d_Md_synthesize_223 rfl (xp_inc1 _) (by decide) rfl (pc' := 226) rfl ?_
                refine xw_goto C (tgt := 99) d_Md_synthesize_226 (by decide) ?_
                refine xw_lv [1, 2, 0] rfl ?_
                exact ih (h - (x + 1)) (by omega) (x + 1) M1 rfl (by omega) hf1 h381 hft1 hg0 (by rw [bs_none hg]; exact hz1) (by rw [bs_none hg]; exact hl1) (by rw [bs_none hg]; exact hR1)
              ·
                exact absurd (by decide) h131
        ·
          have hox : M1 55 x = nI t := by rw [hgx.1, hg]; rfl
          have htn := hgx.2 t hg
          refine xw_iload_n C 2 d_Md_synthesize_104 rfl rfl (pc' := 105) rfl ?_
          refine xw_if_le C (tgt := 152) d_Md_synthesize_105 (by decide) (pc' := 108) rfl (fun h105 => ?_) (fun h105 => ?_)
          ·
            replace h105 : x ≤ 0 := (xp_le0 (by omega)).mp h105
            have hwhy : ¬ (0 < x ∧ pl_g n per wk dl of h (x - 1) = some t) := fun h9 => by omega
            refine xw_aload_n C 0 d_Md_synthesize_152 rfl rfl (pc' := 153) rfl ?_
            refine xw_get C u_Md 38 zr_38 rfl 21 (by decide) k_591 rfl rfl d_Md_synthesize_153 (pc' := 156) rfl ?_
            refine xw_iload_n C 2 d_Md_synthesize_156 rfl rfl (pc' := 157) rfl ?_
            refine xw_iald C 55 0 zr_55 rfl x rfl (by omega) (by decide) d_Md_synthesize_157 (pc' := 158) rfl ?_
            refine xw_topi (y := nI t) hox ?_
            refine xw_if_lt C (tgt := 223) d_Md_synthesize_158 (by decide) (pc' := 161) rfl (fun h158 => ?_) (fun h158 => ?_)
            ·
              replace h158 : t < 0 := (xp_lt0 (by omega)).mp h158
              omega
            ·
              replace h158 : ¬ (t < 0) := fun hneg => h158 ((xp_lt0 (by omega)).mpr hneg)
              refine xw_aload_n C 0 d_Md_synthesize_161 rfl rfl (pc' := 162) rfl ?_
              refine xw_get C u_Md 38 zr_38 rfl 8 (by decide) k_578 rfl rfl d_Md_synthesize_162 (pc' := 165) rfl ?_
              refine xw_topi (y := nI ((bs (pl_g n per wk dl of h) x).length)) hz1 ?_
              refine xw_bipush C (v := nI 60) d_Md_synthesize_165 (by decide) (pc' := 167) rfl ?_
              refine xw_icmp_ne C (tgt := 178) d_Md_synthesize_167 (by decide) (pc' := 170) rfl (fun h167 => ?_) (fun h167 => ?_)
              ·
                replace h167 : ¬ (((bs (pl_g n per wk dl of h) x).length) = 60) := fun hneg => h167 ((nI_eq (by omega) (by omega)).mpr hneg)
                refine xw_aload_n C 0 d_Md_synthesize_178 rfl rfl (pc' := 179) rfl ?_
                refine xw_get C u_Md 38 zr_38 rfl 9 (by decide) k_579 rfl rfl d_Md_synthesize_179 (pc' := 182) rfl ?_
                refine xw_aload_n C 0 d_Md_synthesize_182 rfl rfl (pc' := 183) rfl ?_
                refine xw_get C u_Md 38 zr_38 rfl 8 (by decide) k_578 rfl rfl d_Md_synthesize_183 (pc' := 186) rfl ?_
                refine xw_topi (y := nI ((bs (pl_g n per wk dl of h) x).length)) hz1 ?_
                refine xw_iload_n C 2 d_Md_synthesize_186 rfl rfl (pc' := 187) rfl ?_
                obtain ⟨M51, hM51⟩ : ∃ zq, zq = zst M1 44 ((bs (pl_g n per wk dl of h) x).length) (nI x) := ⟨_, rfl⟩
                have t38_3_M51 : M51 38 3 = nI ((bs (pl_g n per wk dl of h) x).length) := by rw [hM51, zst_ap, if_neg (by omega)]; exact hz1
                refine xw_iast C 44 0 zr_44 rfl ((bs (pl_g n per wk dl of h) x).length) rfl (by omega) (by decide) (ws' := zW ca ad M51) (by rw [hM51]; exact zs_44 _ _) d_Md_synthesize_187 (pc' := 188) rfl ?_
                refine xw_aload_n C 0 d_Md_synthesize_188 rfl rfl (pc' := 189) rfl ?_
                refine xw_get C u_Md 38 zr_38 rfl 10 (by decide) k_580 rfl rfl d_Md_synthesize_189 (pc' := 192) rfl ?_
                refine xw_aload_n C 0 d_Md_synthesize_192 rfl rfl (pc' := 193) rfl ?_
                refine xw_get C u_Md 38 zr_38 rfl 8 (by decide) k_578 rfl rfl d_Md_synthesize_193 (pc' := 196) rfl ?_
                refine xw_topi (y := nI ((bs (pl_g n per wk dl of h) x).length)) t38_3_M51 ?_
                refine xw_iconst C (v := nI 1) d_Md_synthesize_196 (by decide) (pc' := 197) rfl ?_
                obtain ⟨M52, hM52⟩ : ∃ zq, zq = zst M51 45 ((bs (pl_g n per wk dl of h) x).length) (nI 1) := ⟨_, rfl⟩
                have t38_3_M52 : M52 38 3 = nI ((bs (pl_g n per wk dl of h) x).length) := by rw [hM52, zst_ap, if_neg (by omega)]; exact t38_3_M51
                refine xw_iast C 45 0 zr_45 rfl ((bs (pl_g n per wk dl of h) x).length) rfl (by omega) (by decide) (ws' := zW ca ad M52) (by rw [hM52]; exact zs_45 _ _) d_Md_synthesize_197 (pc' := 198) rfl ?_
                refine xw_aload_n C 0 d_Md_synthesize_198 rfl rfl (pc' := 199) rfl ?_
                refine xw_get C u_Md 38 zr_38 rfl 11 (by decide) k_581 rfl rfl d_Md_synthesize_199 (pc' := 202) rfl ?_
                refine xw_aload_n C 0 d_Md_synthesize_202 rfl rfl (pc' := 203) rfl ?_
                refine xw_get C u_Md 38 zr_38 rfl 8 (by decide) k_578 rfl rfl d_Md_synthesize_203 (pc' := 206) rfl ?_
                refine xw_topi (y := nI ((bs (pl_g n per wk dl of h) x).length)) t38_3_M52 ?_
                refine xw_aload_n C 0 d_Md_synthesize_206 rfl rfl (pc' := 207) rfl ?_
                refine xw_get C u_Md 38 zr_38 rfl 21 (by decide) k_591 rfl rfl d_Md_synthesize_207 (pc' := 210) rfl ?_
                refine xw_iload_n C 2 d_Md_synthesize_210 rfl rfl (pc' := 211) rfl ?_
                refine xw_iald C 55 0 zr_55 rfl x rfl (by omega) (by decide) d_Md_synthesize_211 (pc' := 212) rfl ?_
                obtain ⟨M53, hM53⟩ : ∃ zq, zq = zst M52 46 ((bs (pl_g n per wk dl of h) x).length) (M52 55 x) := ⟨_, rfl⟩
                have t38_3_M53 : M53 38 3 = nI ((bs (pl_g n per wk dl of h) x).length) := by rw [hM53, zst_ap, if_neg (by omega)]; exact t38_3_M52
                refine xw_iast C 46 0 zr_46 rfl ((bs (pl_g n per wk dl of h) x).length) rfl (by omega) (by decide) (ws' := zW ca ad M53) (by rw [hM53]; exact zs_46 _ _) d_Md_synthesize_212 (pc' := 213) rfl ?_
                refine xw_aload_n C 0 d_Md_synthesize_213 rfl rfl (pc' := 214) rfl ?_
                refine xw_dup C d_Md_synthesize_214 rfl (pc' := 215) rfl ?_
                refine xw_get C u_Md 38 zr_38 rfl 8 (by decide) k_578 rfl rfl d_Md_synthesize_215 (pc' := 218) rfl ?_
                refine xw_topi (y := nI ((bs (pl_g n per wk dl of h) x).length)) t38_3_M53 ?_
                refine xw_iconst C (v := nI 1) d_Md_synthesize_218 (by decide) (pc' := 219) rfl ?_
                refine xw_iadd C d_Md_synthesize_219 (pc' := 220) rfl ?_
                refine xw_topi (y := nI (((bs (pl_g n per wk dl of h) x).length) + 1)) (nI_add _ _) ?_
                obtain ⟨M54, hM54⟩ : ∃ zq, zq = zst M53 38 3 (nI (((bs (pl_g n per wk dl of h) x).length) + 1)) := ⟨_, rfl⟩
                have t38_3_M54 : M54 38 3 = nI (((bs (pl_g n per wk dl of h) x).length) + 1) := by rw [hM54, zst_ap, if_pos ⟨rfl, rfl⟩]
                refine xw_put C u_Md t_Md t_Md_ok n_Md 38 zr_38 rfl 8 (by decide) k_578 rfl rfl (t_Md_ok 8 (by decide)) rfl rfl (Nat.le_of_ble_eq_true rfl) (ws' := zW ca ad M54) (by rw [hM54]; exact zs_38_3 _) d_Md_synthesize_220 (pc' := 223) rfl ?_
                refine xw_iinc C 2 (v := nI (x + 1)) d_Md_synthesize_223 rfl (xp_inc1 _) (by decide) rfl (pc' := 226) rfl ?_
                refine xw_goto C (tgt := 99) d_Md_synthesize_226 (by decide) ?_
                refine xw_lv [1, 2, 0] rfl ?_
                refine ih (h - (x + 1)) (by omega) (x + 1) M54 rfl (by omega) (fun a b h1 h2 h3 h4 h5 h6 h7 h8 => by rw [hM54, zst_ap, if_neg (by omega), hM53, zst_ap, if_neg (by omega), hM52, zst_ap, if_neg (by omega), hM51, zst_ap, if_neg (by omega)]; exact hf1 a b h1 h2 h3 h4 h5 h6 h7 h8) (fun b h1 h2 => by rw [hM54, zst_ap, if_neg (by omega), hM53, zst_ap, if_neg (by omega), hM52, zst_ap, if_neg (by omega), hM51, zst_ap, if_neg (by omega)]; exact h381 b h1 h2) (by rw [hM54, zst_ap, if_neg (by omega), hM53, zst_ap, if_neg (by omega), hM52, zst_ap, if_neg (by omega), hM51, zst_ap, if_neg (by omega)]; exact hft1) (fun y hy => by rw [hM54, zst_ap, if_neg (by omega), hM53, zst_ap, if_neg (by omega), hM52, zst_ap, if_neg (by omega), hM51, zst_ap, if_neg (by omega)]; exact hg0 y hy) ?_ ?_ ?_
                · rw [hM54, zst_ap, if_pos ⟨rfl, rfl⟩, bs_new hg hwhy]; rfl
                · rw [bs_new hg hwhy]; show (bs (pl_g n per wk dl of h) x).length + 1 ≤ 60; omega
                · rw [bs_new hg hwhy]
                  refine ⟨?_, ?_, ?_, hR1.keep (fun j hj => ?_)⟩
                  · rw [hM54, zst_ap, if_neg (by omega), hM53, zst_ap, if_neg (by omega), hM52, zst_ap, if_neg (by omega), hM51, zst_ap, if_pos ⟨rfl, rfl⟩]
                  · rw [hM54, zst_ap, if_neg (by omega), hM53, zst_ap, if_neg (by omega), hM52, zst_ap, if_pos ⟨rfl, rfl⟩]
                  · rw [hM54, zst_ap, if_neg (by omega), hM53, zst_ap, if_pos ⟨rfl, rfl⟩, hM52, zst_ap, if_neg (by omega), hM51, zst_ap, if_neg (by omega)]; exact hox
                  · refine ⟨?_, ?_, ?_⟩ <;> rw [hM54, zst_ap, if_neg (by omega), hM53, zst_ap, if_neg (by omega), hM52, zst_ap, if_neg (by omega), hM51, zst_ap, if_neg (by omega)]
              ·
                replace h167 : ((bs (pl_g n per wk dl of h) x).length) = 60 := (nI_eq (by omega) (by omega)).mp h167
                refine xw_aload_n C 0 d_Md_synthesize_170 rfl rfl (pc' := 171) rfl ?_
                refine xw_iconst C (v := nI 0) d_Md_synthesize_171 (by decide) (pc' := 172) rfl ?_
                obtain ⟨M55, hM55⟩ : ∃ zq, zq = zst M1 38 3 (nI 0) := ⟨_, rfl⟩
                have t38_3_M55 : M55 38 3 = nI 0 := by rw [hM55, zst_ap, if_pos ⟨rfl, rfl⟩]
                refine xw_put C u_Md t_Md t_Md_ok n_Md 38 zr_38 rfl 8 (by decide) k_578 rfl rfl (t_Md_ok 8 (by decide)) rfl rfl (Nat.le_of_ble_eq_true rfl) (ws' := zW ca ad M55) (by rw [hM55]; exact zs_38_3 _) d_Md_synthesize_172 (pc' := 175) rfl ?_
                refine xw_bipush C (v := (-3)) d_Md_synthesize_175 (by decide) (pc' := 177) rfl ?_
                refine xw_iret C hr hlk (F := zW ca ad) M55 rfl ?_ d_Md_synthesize_177
                refine Or.inr ⟨hmd0, by rw [hM55, zst_ap, if_neg (by omega)]; exact hft1, fun a b h1 h2 h3 h4 h5 h6 h7 h8 => by rw [hM55, zst_ap, if_neg (fun q => h1 q.1)]; exact hf1 a b h1 h2 h3 h4 h5 h6 h7 h8, fun b h1 h2 => by rw [hM55, zst_ap, if_neg (fun q => h2 q.2)]; exact h381 b h1 h2, Or.inr ⟨h, hrd, Or.inr (Or.inl ⟨hpok, fun h9 => ?_, rfl, by rw [hM55, zst_ap, if_pos ⟨rfl, rfl⟩]⟩)⟩⟩
                have q1 := bs_mono (g := pl_g n per wk dl of h) (show x + 1 ≤ h by omega)
                rw [bs_new hg hwhy] at q1
                have q2 : (bs (pl_g n per wk dl of h) x).length + 1 ≤ (bs (pl_g n per wk dl of h) h).length := q1
                omega
          ·
            replace h105 : ¬ (x ≤ 0) := fun hneg => h105 ((xp_le0 (by omega)).mpr hneg)
            refine xw_aload_n C 0 d_Md_synthesize_108 rfl rfl (pc' := 109) rfl ?_
            refine xw_get C u_Md 38 zr_38 rfl 21 (by decide) k_591 rfl rfl d_Md_synthesize_109 (pc' := 112) rfl ?_
            refine xw_iload_n C 2 d_Md_synthesize_112 rfl rfl (pc' := 113) rfl ?_
            refine xw_iald C 55 0 zr_55 rfl x rfl (by omega) (by decide) d_Md_synthesize_113 (pc' := 114) rfl ?_
            refine xw_topi (y := nI t) hox ?_
            refine xw_aload_n C 0 d_Md_synthesize_114 rfl rfl (pc' := 115) rfl ?_
            refine xw_get C u_Md 38 zr_38 rfl 21 (by decide) k_591 rfl rfl d_Md_synthesize_115 (pc' := 118) rfl ?_
            refine xw_iload_n C 2 d_Md_synthesize_118 rfl rfl (pc' := 119) rfl ?_
            refine xw_iconst C (v := nI 1) d_Md_synthesize_119 (by decide) (pc' := 120) rfl ?_
            refine xw_isub C d_Md_synthesize_120 (pc' := 121) rfl ?_
            refine xw_topi (y := nI (x - 1)) (pk_sub (by omega)) ?_
            have hgp := hg0 (x - 1) (by omega)
            have hop : M1 55 (x - 1) = oI (pl_g n per wk dl of h (x - 1)) := hgp.1
            refine xw_iald C 55 0 zr_55 rfl (x - 1) rfl (by omega) (by decide) d_Md_synthesize_121 (pc' := 122) rfl ?_
            refine xw_topi (y := oI (pl_g n per wk dl of h (x - 1))) hop ?_
            refine xw_icmp_ne C (tgt := 152) d_Md_synthesize_122 (by decide) (pc' := 125) rfl (fun h122 => ?_) (fun h122 => ?_)
            ·
              have hwhy : ¬ (0 < x ∧ pl_g n per wk dl of h (x - 1) = some t) := fun h9 => h122 (by rw [h9.2]; rfl)
              refine xw_aload_n C 0 d_Md_synthesize_152 rfl rfl (pc' := 153) rfl ?_
              refine xw_get C u_Md 38 zr_38 rfl 21 (by decide) k_591 rfl rfl d_Md_synthesize_153 (pc' := 156) rfl ?_
              refine xw_iload_n C 2 d_Md_synthesize_156 rfl rfl (pc' := 157) rfl ?_
              refine xw_iald C 55 0 zr_55 rfl x rfl (by omega) (by decide) d_Md_synthesize_157 (pc' := 158) rfl ?_
              refine xw_topi (y := nI t) hox ?_
              refine xw_if_lt C (tgt := 223) d_Md_synthesize_158 (by decide) (pc' := 161) rfl (fun h158 => ?_) (fun h158 => ?_)
              ·
                replace h158 : t < 0 := (xp_lt0 (by omega)).mp h158
                omega
              ·
                replace h158 : ¬ (t < 0) := fun hneg => h158 ((xp_lt0 (by omega)).mpr hneg)
                refine xw_aload_n C 0 d_Md_synthesize_161 rfl rfl (pc' := 162) rfl ?_
                refine xw_get C u_Md 38 zr_38 rfl 8 (by decide) k_578 rfl rfl d_Md_synthesize_162 (pc' := 165) rfl ?_
                refine xw_topi (y := nI ((bs (pl_g n per wk dl of h) x).length)) hz1 ?_
                refine xw_bipush C (v := nI 60) d_Md_synthesize_165 (by decide) (pc' := 167) rfl ?_
                refine xw_icmp_ne C (tgt := 178) d_Md_synthesize_167 (by decide) (pc' := 170) rfl (fun h167 => ?_) (fun h167 => ?_)
                ·
                  replace h167 : ¬ (((bs (pl_g n per wk dl of h) x).length) = 60) := fun hneg => h167 ((nI_eq (by omega) (by omega)).mpr hneg)
                  refine xw_aload_n C 0 d_Md_synthesize_178 rfl rfl (pc' := 179) rfl ?_
                  refine xw_get C u_Md 38 zr_38 rfl 9 (by decide) k_579 rfl rfl d_Md_synthesize_179 (pc' := 182) rfl ?_
                  refine xw_aload_n C 0 d_Md_synthesize_182 rfl rfl (pc' := 183) rfl ?_
                  refine xw_get C u_Md 38 zr_38 rfl 8 (by decide) k_578 rfl rfl d_Md_synthesize_183 (pc' := 186) rfl ?_
                  refine xw_topi (y := nI ((bs (pl_g n per wk dl of h) x).length)) hz1 ?_
                  refine xw_iload_n C 2 d_Md_synthesize_186 rfl rfl (pc' := 187) rfl ?_
                  obtain ⟨M56, hM56⟩ : ∃ zq, zq = zst M1 44 ((bs (pl_g n per wk dl of h) x).length) (nI x) := ⟨_, rfl⟩
                  have t38_3_M56 : M56 38 3 = nI ((bs (pl_g n per wk dl of h) x).length) := by rw [hM56, zst_ap, if_neg (by omega)]; exact hz1
                  refine xw_iast C 44 0 zr_44 rfl ((bs (pl_g n per wk dl of h) x).length) rfl (by omega) (by decide) (ws' := zW ca ad M56) (by rw [hM56]; exact zs_44 _ _) d_Md_synthesize_187 (pc' := 188) rfl ?_
                  refine xw_aload_n C 0 d_Md_synthesize_188 rfl rfl (pc' := 189) rfl ?_
                  refine xw_get C u_Md 38 zr_38 rfl 10 (by decide) k_580 rfl rfl d_Md_synthesize_189 (pc' := 192) rfl ?_
                  refine xw_aload_n C 0 d_Md_synthesize_192 rfl rfl (pc' := 193) rfl ?_
                  refine xw_get C u_Md 38 zr_38 rfl 8 (by decide) k_578 rfl rfl d_Md_synthesize_193 (pc' := 196) rfl ?_
                  refine xw_topi (y := nI ((bs (pl_g n per wk dl of h) x).length)) t38_3_M56 ?_
                  refine xw_iconst C (v := nI 1) d_Md_synthesize_196 (by decide) (pc' := 197) rfl ?_
                  obtain ⟨M57, hM57⟩ : ∃ zq, zq = zst M56 45 ((bs (pl_g n per wk dl of h) x).length) (nI 1) := ⟨_, rfl⟩
                  have t38_3_M57 : M57 38 3 = nI ((bs (pl_g n per wk dl of h) x).length) := by rw [hM57, zst_ap, if_neg (by omega)]; exact t38_3_M56
                  refine xw_iast C 45 0 zr_45 rfl ((bs (pl_g n per wk dl of h) x).length) rfl (by omega) (by decide) (ws' := zW ca ad M57) (by rw [hM57]; exact zs_45 _ _) d_Md_synthesize_197 (pc' := 198) rfl ?_
                  refine xw_aload_n C 0 d_Md_synthesize_198 rfl rfl (pc' := 199) rfl ?_
                  refine xw_get C u_Md 38 zr_38 rfl 11 (by decide) k_581 rfl rfl d_Md_synthesize_199 (pc' := 202) rfl ?_
                  refine xw_aload_n C 0 d_Md_synthesize_202 rfl rfl (pc' := 203) rfl ?_
                  refine xw_get C u_Md 38 zr_38 rfl 8 (by decide) k_578 rfl rfl d_Md_synthesize_203 (pc' := 206) rfl ?_
                  refine xw_topi (y := nI ((bs (pl_g n per wk dl of h) x).length)) t38_3_M57 ?_
                  refine xw_aload_n C 0 d_Md_synthesize_206 rfl rfl (pc' := 207) rfl ?_
                  refine xw_get C u_Md 38 zr_38 rfl 21 (by decide) k_591 rfl rfl d_Md_synthesize_207 (pc' := 210) rfl ?_
                  refine xw_iload_n C 2 d_Md_synthesize_210 rfl rfl (pc' := 211) rfl ?_
                  refine xw_iald C 55 0 zr_55 rfl x rfl (by omega) (by decide) d_Md_synthesize_211 (pc' := 212) rfl ?_
                  obtain ⟨M58, hM58⟩ : ∃ zq, zq = zst M57 46 ((bs (pl_g n per wk dl of h) x).length) (M57 55 x) := ⟨_, rfl⟩
                  have t38_3_M58 : M58 38 3 = nI ((bs (pl_g n per wk dl of h) x).length) := by rw [hM58, zst_ap, if_neg (by omega)]; exact t38_3_M57
                  refine xw_iast C 46 0 zr_46 rfl ((bs (pl_g n per wk dl of h) x).length) rfl (by omega) (by decide) (ws' := zW ca ad M58) (by rw [hM58]; exact zs_46 _ _) d_Md_synthesize_212 (pc' := 213) rfl ?_
                  refine xw_aload_n C 0 d_Md_synthesize_213 rfl rfl (pc' := 214) rfl ?_
                  refine xw_dup C d_Md_synthesize_214 rfl (pc' := 215) rfl ?_
                  refine xw_get C u_Md 38 zr_38 rfl 8 (by decide) k_578 rfl rfl d_Md_synthesize_215 (pc' := 218) rfl ?_
                  refine xw_topi (y := nI ((bs (pl_g n per wk dl of h) x).length)) t38_3_M58 ?_
                  refine xw_iconst C (v := nI 1) d_Md_synthesize_218 (by decide) (pc' := 219) rfl ?_
                  refine xw_iadd C d_Md_synthesize_219 (pc' := 220) rfl ?_
                  refine xw_topi (y := nI (((bs (pl_g n per wk dl of h) x).length) + 1)) (nI_add _ _) ?_
                  obtain ⟨M59, hM59⟩ : ∃ zq, zq = zst M58 38 3 (nI (((bs (pl_g n per wk dl of h) x).length) + 1)) := ⟨_, rfl⟩
                  have t38_3_M59 : M59 38 3 = nI (((bs (pl_g n per wk dl of h) x).length) + 1) := by rw [hM59, zst_ap, if_pos ⟨rfl, rfl⟩]
                  refine xw_put C u_Md t_Md t_Md_ok n_Md 38 zr_38 rfl 8 (by decide) k_578 rfl rfl (t_Md_ok 8 (by decide)) rfl rfl (Nat.le_of_ble_eq_true rfl) (ws' := zW ca ad M59) (by rw [hM59]; exact zs_38_3 _) d_Md_synthesize_220 (pc' := 223) rfl ?_
                  refine xw_iinc C 2 (v := nI (x + 1)) d_Md_synthesize_223 rfl (xp_inc1 _) (by decide) rfl (pc' := 226) rfl ?_
                  refine xw_goto C (tgt := 99) d_Md_synthesize_226 (by decide) ?_
                  refine xw_lv [1, 2, 0] rfl ?_
                  refine ih (h - (x + 1)) (by omega) (x + 1) M59 rfl (by omega) (fun a b h1 h2 h3 h4 h5 h6 h7 h8 => by rw [hM59, zst_ap, if_neg (by omega), hM58, zst_ap, if_neg (by omega), hM57, zst_ap, if_neg (by omega), hM56, zst_ap, if_neg (by omega)]; exact hf1 a b h1 h2 h3 h4 h5 h6 h7 h8) (fun b h1 h2 => by rw [hM59, zst_ap, if_neg (by omega), hM58, zst_ap, if_neg (by omega), hM57, zst_ap, if_neg (by omega), hM56, zst_ap, if_neg (by omega)]; exact h381 b h1 h2) (by rw [hM59, zst_ap, if_neg (by omega), hM58, zst_ap, if_neg (by omega), hM57, zst_ap, if_neg (by omega), hM56, zst_ap, if_neg (by omega)]; exact hft1) (fun y hy => by rw [hM59, zst_ap, if_neg (by omega), hM58, zst_ap, if_neg (by omega), hM57, zst_ap, if_neg (by omega), hM56, zst_ap, if_neg (by omega)]; exact hg0 y hy) ?_ ?_ ?_
                  · rw [hM59, zst_ap, if_pos ⟨rfl, rfl⟩, bs_new hg hwhy]; rfl
                  · rw [bs_new hg hwhy]; show (bs (pl_g n per wk dl of h) x).length + 1 ≤ 60; omega
                  · rw [bs_new hg hwhy]
                    refine ⟨?_, ?_, ?_, hR1.keep (fun j hj => ?_)⟩
                    · rw [hM59, zst_ap, if_neg (by omega), hM58, zst_ap, if_neg (by omega), hM57, zst_ap, if_neg (by omega), hM56, zst_ap, if_pos ⟨rfl, rfl⟩]
                    · rw [hM59, zst_ap, if_neg (by omega), hM58, zst_ap, if_neg (by omega), hM57, zst_ap, if_pos ⟨rfl, rfl⟩]
                    · rw [hM59, zst_ap, if_neg (by omega), hM58, zst_ap, if_pos ⟨rfl, rfl⟩, hM57, zst_ap, if_neg (by omega), hM56, zst_ap, if_neg (by omega)]; exact hox
                    · refine ⟨?_, ?_, ?_⟩ <;> rw [hM59, zst_ap, if_neg (by omega), hM58, zst_ap, if_neg (by omega), hM57, zst_ap, if_neg (by omega), hM56, zst_ap, if_neg (by omega)]
                ·
                  replace h167 : ((bs (pl_g n per wk dl of h) x).length) = 60 := (nI_eq (by omega) (by omega)).mp h167
                  refine xw_aload_n C 0 d_Md_synthesize_170 rfl rfl (pc' := 171) rfl ?_
                  refine xw_iconst C (v := nI 0) d_Md_synthesize_171 (by decide) (pc' := 172) rfl ?_
                  obtain ⟨M60, hM60⟩ : ∃ zq, zq = zst M1 38 3 (nI 0) := ⟨_, rfl⟩
                  have t38_3_M60 : M60 38 3 = nI 0 := by rw [hM60, zst_ap, if_pos ⟨rfl, rfl⟩]
                  refine xw_put C u_Md t_Md t_Md_ok n_Md 38 zr_38 rfl 8 (by decide) k_578 rfl rfl (t_Md_ok 8 (by decide)) rfl rfl (Nat.le_of_ble_eq_true rfl) (ws' := zW ca ad M60) (by rw [hM60]; exact zs_38_3 _) d_Md_synthesize_172 (pc' := 175) rfl ?_
                  refine xw_bipush C (v := (-3)) d_Md_synthesize_175 (by decide) (pc' := 177) rfl ?_
                  refine xw_iret C hr hlk (F := zW ca ad) M60 rfl ?_ d_Md_synthesize_177
                  refine Or.inr ⟨hmd0, by rw [hM60, zst_ap, if_neg (by omega)]; exact hft1, fun a b h1 h2 h3 h4 h5 h6 h7 h8 => by rw [hM60, zst_ap, if_neg (fun q => h1 q.1)]; exact hf1 a b h1 h2 h3 h4 h5 h6 h7 h8, fun b h1 h2 => by rw [hM60, zst_ap, if_neg (fun q => h2 q.2)]; exact h381 b h1 h2, Or.inr ⟨h, hrd, Or.inr (Or.inl ⟨hpok, fun h9 => ?_, rfl, by rw [hM60, zst_ap, if_pos ⟨rfl, rfl⟩]⟩)⟩⟩
                  have q1 := bs_mono (g := pl_g n per wk dl of h) (show x + 1 ≤ h by omega)
                  rw [bs_new hg hwhy] at q1
                  have q2 : (bs (pl_g n per wk dl of h) x).length + 1 ≤ (bs (pl_g n per wk dl of h) h).length := q1
                  omega
            ·
              have hg1 : pl_g n per wk dl of h (x - 1) = some t := (oI_inj (a := some t) (b := pl_g n per wk dl of h (x - 1)) (fun t9 h9 => by cases h9; omega) (fun t9 h9 => by have := hgp.2 t9 h9; omega) h122).symm
              obtain ⟨qq, rr, hL⟩ : ∃ q r, bs (pl_g n per wk dl of h) x = q :: r := by
                rcases hL : bs (pl_g n per wk dl of h) x with _ | ⟨q, r⟩
                · exact absurd (by rw [show x - 1 + 1 = x by omega]; exact hL) (bs_ne (x := x - 1) hg1)
                · exact ⟨q, r, rfl⟩
              have hlp : 0 < (bs (pl_g n per wk dl of h) x).length := by rw [hL]; exact Nat.succ_pos _
              refine xw_aload_n C 0 d_Md_synthesize_125 rfl rfl (pc' := 126) rfl ?_
              refine xw_get C u_Md 38 zr_38 rfl 21 (by decide) k_591 rfl rfl d_Md_synthesize_126 (pc' := 129) rfl ?_
              refine xw_iload_n C 2 d_Md_synthesize_129 rfl rfl (pc' := 130) rfl ?_
              refine xw_iald C 55 0 zr_55 rfl x rfl (by omega) (by decide) d_Md_synthesize_130 (pc' := 131) rfl ?_
              refine xw_topi (y := nI t) hox ?_
              refine xw_if_lt C (tgt := 223) d_Md_synthesize_131 (by decide) (pc' := 134) rfl (fun h131 => ?_) (fun h131 => ?_)
              ·
                replace h131 : t < 0 := (xp_lt0 (by omega)).mp h131
                omega
              ·
                replace h131 : ¬ (t < 0) := fun hneg => h131 ((xp_lt0 (by omega)).mpr hneg)
                refine xw_aload_n C 0 d_Md_synthesize_134 rfl rfl (pc' := 135) rfl ?_
                refine xw_get C u_Md 38 zr_38 rfl 10 (by decide) k_580 rfl rfl d_Md_synthesize_135 (pc' := 138) rfl ?_
                refine xw_aload_n C 0 d_Md_synthesize_138 rfl rfl (pc' := 139) rfl ?_
                refine xw_get C u_Md 38 zr_38 rfl 8 (by decide) k_578 rfl rfl d_Md_synthesize_139 (pc' := 142) rfl ?_
                refine xw_topi (y := nI ((bs (pl_g n per wk dl of h) x).length)) hz1 ?_
                refine xw_iconst C (v := nI 1) d_Md_synthesize_142 (by decide) (pc' := 143) rfl ?_
                refine xw_isub C d_Md_synthesize_143 (pc' := 144) rfl ?_
                refine xw_topi (y := nI (((bs (pl_g n per wk dl of h) x).length) - 1)) (pk_sub (by omega)) ?_
                refine xw_dup2_11 C d_Md_synthesize_144 rfl rfl (pc' := 145) rfl ?_
                refine xw_iald C 45 0 zr_45 rfl (((bs (pl_g n per wk dl of h) x).length) - 1) rfl (by omega) (by decide) d_Md_synthesize_145 (pc' := 146) rfl ?_
                refine xw_iconst C (v := nI 1) d_Md_synthesize_146 (by decide) (pc' := 147) rfl ?_
                refine xw_iadd C d_Md_synthesize_147 (pc' := 148) rfl ?_
                obtain ⟨M61, hM61⟩ : ∃ zq, zq = zst M1 45 (((bs (pl_g n per wk dl of h) x).length) - 1) ((M1 45 (((bs (pl_g n per wk dl of h) x).length) - 1)) + (nI 1)) := ⟨_, rfl⟩
                have t38_3_M61 : M61 38 3 = nI ((bs (pl_g n per wk dl of h) x).length) := by rw [hM61, zst_ap, if_neg (by omega)]; exact hz1
                refine xw_iast C 45 0 zr_45 rfl (((bs (pl_g n per wk dl of h) x).length) - 1) rfl (by omega) (by decide) (ws' := zW ca ad M61) (by rw [hM61]; exact zs_45 _ _) d_Md_synthesize_148 (pc' := 149) rfl ?_
                refine xw_goto C (tgt := 223) d_Md_synthesize_149 (by decide) ?_
                refine xw_iinc C 2 (v := nI (x + 1)) d_Md_synthesize_223 rfl (xp_inc1 _) (by decide) rfl (pc' := 226) rfl ?_
                refine xw_goto C (tgt := 99) d_Md_synthesize_226 (by decide) ?_
                refine xw_lv [1, 2, 0] rfl ?_
                refine ih (h - (x + 1)) (by omega) (x + 1) M61 rfl (by omega) (fun a b h1 h2 h3 h4 h5 h6 h7 h8 => by rw [hM61, zst_ap, if_neg (fun q => h3 q.1)]; exact hf1 a b h1 h2 h3 h4 h5 h6 h7 h8) (fun b h1 h2 => by rw [hM61, zst_ap, if_neg (by omega)]; exact h381 b h1 h2) (by rw [hM61, zst_ap, if_neg (by omega)]; exact hft1) (fun y hy => by rw [hM61, zst_ap, if_neg (by omega)]; exact hg0 y hy) ?_ ?_ ?_
                · rw [hM61, zst_ap, if_neg (by omega), bs_ext hg (by omega) hg1 hL]; exact hz1.trans (by rw [hL]; rfl)
                · rw [bs_ext hg (by omega) hg1 hL]; rw [hL] at hl1; exact hl1
                · rw [bs_ext hg (by omega) hg1 hL]
                  rw [hL] at hR1
                  obtain ⟨a1, a2, a3, a4⟩ := hR1
                  have hlr : (bs (pl_g n per wk dl of h) x).length - 1 = rr.length := by rw [hL]; rfl
                  rw [hlr] at hM61
                  refine ⟨?_, ?_, ?_, a4.keep (fun j hj => ?_)⟩
                  · rw [hM61, zst_ap, if_neg (fun h9 => absurd h9.1 (by decide))]; exact a1
                  · rw [hM61, zst_ap, if_pos ⟨rfl, rfl⟩, a2]; exact nI_add _ _
                  · rw [hM61, zst_ap, if_neg (fun h9 => absurd h9.1 (by decide))]; exact a3
                  · refine ⟨?_, ?_, ?_⟩
                    · rw [hM61, zst_ap, if_neg (fun h9 => absurd h9.1 (by decide))]
                    · rw [hM61, zst_ap, if_neg (fun h9 : 45 = 45 ∧ j = rr.length => absurd h9.2 (by omega))]
                    · rw [hM61, zst_ap, if_neg (fun h9 => absurd h9.1 (by decide))]
  have loopN : ∀ h, sp_rd n per h → md = 0 → ∀ (M1 : Nat → Nat → Int32), (∀ a b, a ≠ 38 → a ≠ 44 → a ≠ 45 → a ≠ 46 → a ≠ 49 → a ≠ 50 → a ≠ 51 → a ≠ 55 → M1 a b = M a b) → (∀ b, b ≠ 0 → b ≠ 3 → M1 38 b = M 38 b) → M1 38 0 = nI 0 → M1 38 3 = nI 0 → ∀ (d : Nat) (t g : Nat), n - t = d → t ≤ n → g = xs_sm (fun t => wk t * (h / per t)) t → XW p l e { frames := 2, cells := 0, slots := 0, locals := 47 } s m args below meth c D zCl (va_A (zW ca ad M) sz) s.heap 4 (zW ca ad M1) 0 0 (MQ below (va_Qi (fun r M' => md = 1 ∧ M' = zst M 38 0 (nI 1) ∨ md = 0 ∧ M' 38 0 = nI 0 ∧ (∀ a b, a ≠ 38 → a ≠ 44 → a ≠ 45 → a ≠ 46 → a ≠ 49 → a ≠ 50 → a ≠ 51 → a ≠ 55 → M' a b = M a b) ∧ (∀ b, b ≠ 0 → b ≠ 3 → M' 38 b = M 38 b) ∧ sp_syn n per wk dl of r (M' 38 3) M' 44 45 46) (xw_B D zCl (zT ca) (va_A (zW ca ad M) sz) (zW ca ad)) (va_A (zW ca ad M) sz)) args s 0 0 (va_A (zW ca ad M) sz)) 45 [(0, .ref (ad 38)), (1, .int (nI h)), (2, .int (nI g)), (3, .int (nI t))] [] := by
    intro h hrd hmd0 M1 hfr h38 hft hz3 d
    have hh1 := hrd.1
    have hh2 := hrd.2.1
    have hT1 : tmOK M1 n per wk dl of := hT.keep (h38 _ (by decide) (by decide)) (fun a j h1 h2 => hfr _ _ (by omega) (by omega) (by omega) (by omega) (by omega) (by omega) (by omega) (by omega))
    induction d using Nat.strongRecOn with
    | _ d ih =>
      intro t g hd ht hg
      refine xw_iload_n C 3 d_Md_synthesize_45 rfl rfl (pc' := 46) rfl ?_
      refine xw_aload_n C 0 d_Md_synthesize_46 rfl rfl (pc' := 47) rfl ?_
      refine xw_get C u_Md 38 zr_38 rfl 2 (by decide) k_572 rfl rfl d_Md_synthesize_47 (pc' := 50) rfl ?_
      refine xw_topi (y := nI n) hT1.2.1 ?_
      refine xw_icmp_ge C (tgt := 77) d_Md_synthesize_50 (by decide) (pc' := 53) rfl (fun h50 => ?_) (fun h50 => ?_)
      ·
        replace h50 : n ≤ t := (nI_leI (by omega) (by omega)).mp h50
        refine xw_iload_n C 2 d_Md_synthesize_77 rfl rfl (pc' := 78) rfl ?_
        refine xw_iload_n C 1 d_Md_synthesize_78 rfl rfl (pc' := 79) rfl ?_
        have hgn : g ≤ 69120 := by rw [hg, show t = n by omega]; exact pl_need hT.1 hh2 (fun t ht => by have := hT.2.2 t ht; omega)
        rw [show t = n by omega] at hg
        refine xw_icmp_gt C (tgt := 94) d_Md_synthesize_79 (by decide) (pc' := 82) rfl (fun h79 => ?_) (fun h79 => ?_)
        ·
          replace h79 : h < g := (nI_ltI (by omega) (by omega)).mp h79
          refine xw_bipush C (v := (-2)) d_Md_synthesize_94 (by decide) (pc' := 96) rfl ?_
          refine xw_iret C hr hlk (F := zW ca ad) M1 rfl ?_ d_Md_synthesize_96
          exact Or.inr ⟨hmd0, hft, hfr, h38, Or.inr ⟨h, hrd, Or.inl ⟨fun h9 => by have := h9.1; omega, rfl, hz3⟩⟩⟩
        ·
          replace h79 : ¬ (h < g) := fun hneg => h79 ((nI_ltI (by omega) (by omega)).mpr hneg)
          refine xw_aload_n C 0 d_Md_synthesize_82 rfl rfl (pc' := 83) rfl ?_
          refine xw_aload_n C 0 d_Md_synthesize_83 rfl rfl (pc' := 84) rfl ?_
          refine xw_callVi C (c_Md_greatestOffset l D ca ad M1 n per wk dl of hT1) ⟨zg_B C 0 k_674 k_31 k_677 q_Md_greatestOffset ⟨by decide, by decide⟩, C.2.2.2.2.1 _ k_676, C.2.2.2.2.1 _ k_12⟩ 38 zr_38 rfl rfl (fun _ _ _ _ h => h) (fun _ _ _ _ _ _ _ => trivial) rfl rfl (Nat.le_of_ble_eq_true rfl) d_Md_synthesize_84 ⟨by decide, by decide⟩ (pc' := 87) rfl (fun r301 M302 hp303 => ?_)
          obtain ⟨hme, hre⟩ := hp303
          rw [hme, hre]
          clear hme hre
          refine xw_iload_n C 1 d_Md_synthesize_87 rfl rfl (pc' := 88) rfl ?_
          refine xw_callVi C (c_Md_imagine l D ca ad M1 n per wk dl of h hT1 hh1 hh2) ⟨zg_B C 2 k_678 k_31 k_681 q_Md_imagine ⟨by decide, by decide⟩, C.2.2.2.2.1 _ k_680, C.2.2.2.2.1 _ k_13⟩ 38 zr_38 rfl rfl (fun _ _ _ _ h => h) (fun _ _ _ _ _ _ _ => trivial) rfl rfl (Nat.le_of_ble_eq_true rfl) d_Md_synthesize_88 ⟨by decide, by decide⟩ (pc' := 91) rfl (fun r304 M305 hp306 => ?_)
          obtain ⟨him, hii⟩ := hp306
          have hfr3 : ∀ a b, a ≠ 38 → a ≠ 44 → a ≠ 45 → a ≠ 46 → a ≠ 49 → a ≠ 50 → a ≠ 51 → a ≠ 55 → M305 a b = M a b := fun a b h1 h2 h3 h4 h5 h6 h7 h8 => (him a b h5 h6 h7 h8).trans (hfr a b h1 h2 h3 h4 h5 h6 h7 h8)
          have h383 : ∀ b, b ≠ 0 → b ≠ 3 → M305 38 b = M 38 b := fun b h1 h2 => (him _ _ (by decide) (by decide) (by decide) (by decide)).trans (h38 b h1 h2)
          have hft3 : M305 38 0 = nI 0 := (him _ _ (by decide) (by decide) (by decide) (by decide)).trans hft
          have hz33 : M305 38 3 = nI 0 := (him _ _ (by decide) (by decide) (by decide) (by decide)).trans hz3
          rcases hii with ⟨hok, hre, hgo⟩ | ⟨hok, hre⟩
          ·
            rw [hre]
            clear hre
            refine xw_if_ne C (tgt := 97) d_Md_synthesize_91 (by decide) (pc' := 94) rfl (fun h91 => ?_) (fun h91 => ?_)
            ·
              replace h91 : ¬ (1 = 0) := fun hneg => h91 ((xp_eq0 (by omega)).mpr hneg)
              refine xw_iconst C (v := nI 0) d_Md_synthesize_97 (by decide) (pc' := 98) rfl ?_
              refine xw_istore_n C d_Md_synthesize_98 rfl (by decide) rfl (pc' := 99) rfl ?_
              refine xw_lv [1, 2, 0] rfl ?_
              exact loopT h hrd hmd0 ⟨by omega, hok⟩ _ 0 M305 rfl (by omega) hfr3 h383 hft3 (fun y hy => pl_g_of hgo y hy) hz33 (by show (0 : Nat) ≤ 60; omega) trivial
            ·
              replace h91 : 1 = 0 := (xp_eq0 (by omega)).mp h91
              omega
          ·
            rw [hre]
            clear hre
            refine xw_if_ne C (tgt := 97) d_Md_synthesize_91 (by decide) (pc' := 94) rfl (fun h91 => ?_) (fun h91 => ?_)
            ·
              replace h91 : ¬ (0 = 0) := fun hneg => h91 ((xp_eq0 (by omega)).mpr hneg)
              omega
            ·
              replace h91 : 0 = 0 := (xp_eq0 (by omega)).mp h91
              refine xw_bipush C (v := (-2)) d_Md_synthesize_94 (by decide) (pc' := 96) rfl ?_
              refine xw_iret C hr hlk (F := zW ca ad) M305 rfl ?_ d_Md_synthesize_96
              exact Or.inr ⟨hmd0, hft3, hfr3, h383, Or.inr ⟨h, hrd, Or.inl ⟨fun h9 => hok h9.2, rfl, hz33⟩⟩⟩
      ·
        replace h50 : ¬ (n ≤ t) := fun hneg => h50 ((nI_leI (by omega) (by omega)).mpr hneg)
        refine xw_iload_n C 2 d_Md_synthesize_53 rfl rfl (pc' := 54) rfl ?_
        refine xw_aload_n C 0 d_Md_synthesize_54 rfl rfl (pc' := 55) rfl ?_
        refine xw_get C u_Md 38 zr_38 rfl 4 (by decide) k_574 rfl rfl d_Md_synthesize_55 (pc' := 58) rfl ?_
        refine xw_iload_n C 3 d_Md_synthesize_58 rfl rfl (pc' := 59) rfl ?_
        refine xw_iald C 40 0 zr_40 rfl t rfl (by omega) (by decide) d_Md_synthesize_59 (pc' := 60) rfl ?_
        refine xw_topi (y := nI (wk t)) (hT1.2.2 t (by omega)).2.1 ?_
        refine xw_iload_n C 1 d_Md_synthesize_60 rfl rfl (pc' := 61) rfl ?_
        refine xw_aload_n C 0 d_Md_synthesize_61 rfl rfl (pc' := 62) rfl ?_
        refine xw_get C u_Md 38 zr_38 rfl 3 (by decide) k_573 rfl rfl d_Md_synthesize_62 (pc' := 65) rfl ?_
        refine xw_iload_n C 3 d_Md_synthesize_65 rfl rfl (pc' := 66) rfl ?_
        refine xw_iald C 39 0 zr_39 rfl t rfl (by omega) (by decide) d_Md_synthesize_66 (pc' := 67) rfl ?_
        refine xw_topi (y := nI (per t)) (hT1.2.2 t (by omega)).1 ?_
        have hgi := hT.2.2 t (by omega)
        refine xw_idiv C d_Md_synthesize_67 (nI_ne0 (by omega) (by omega)) (pc' := 68) rfl ?_
        refine xw_topi (y := nI (h / (per t))) (pk_div (by omega) (by omega) (by omega)) ?_
        have hm67 : h / (per t) ≤ h := Nat.div_le_self _ _
        refine xw_imul C d_Md_synthesize_68 (pc' := 69) rfl ?_
        refine xw_topi (y := nI ((wk t) * (h / (per t)))) (pk_mul _ _) ?_
        refine xw_iadd C d_Md_synthesize_69 (pc' := 70) rfl ?_
        refine xw_topi (y := nI (g + ((wk t) * (h / (per t))))) (nI_add _ _) ?_
        refine xw_istore_n C d_Md_synthesize_70 rfl (by decide) rfl (pc' := 71) rfl ?_
        refine xw_iinc C 3 (v := nI (t + 1)) d_Md_synthesize_71 rfl (xp_inc1 _) (by decide) rfl (pc' := 74) rfl ?_
        refine xw_goto C (tgt := 45) d_Md_synthesize_74 (by decide) ?_
        refine xw_lv [2, 3, 1, 0] rfl ?_
        exact ih (n - (t + 1)) (by omega) (t + 1) ((g + ((wk t) * (h / (per t))))) rfl (by omega) (by rw [hg]; rfl)
  refine xw_lvE (lv' := [(0, .ref (ad 38))]) rfl ?_
  refine xw_aload_n C 0 d_Md_synthesize_0 rfl rfl (pc' := 1) rfl ?_
  refine xw_aload_n C 0 d_Md_synthesize_1 rfl rfl (pc' := 2) rfl ?_
  refine xw_get C u_Md 38 zr_38 rfl 1 (by decide) k_571 rfl rfl d_Md_synthesize_2 (pc' := 5) rfl ?_
  refine xw_topi (y := nI md) hmd ?_
  refine xw_if_eq C (tgt := 12) d_Md_synthesize_5 (by decide) (pc' := 8) rfl (fun h5 => ?_) (fun h5 => ?_)
  ·
    replace h5 : md = 0 := (xp_eq0 (by omega)).mp h5
    refine xw_iconst C (v := nI 0) d_Md_synthesize_12 (by decide) (pc' := 13) rfl ?_
    refine xw_callVi C (c_Md_refused l D ca ad M 0 (by omega)) ⟨zg_B C 1 k_646 k_31 k_649 q_Md_refused ⟨by decide, by decide⟩, C.2.2.2.2.1 _ k_648, C.2.2.2.2.1 _ k_10⟩ 38 zr_38 rfl rfl (fun _ _ _ _ h => h) (fun _ _ _ _ _ _ _ => trivial) rfl rfl (Nat.le_of_ble_eq_true rfl) d_Md_synthesize_13 ⟨by decide, by decide⟩ (pc' := 16) rfl (fun r1 M2 hp3 => ?_)
    obtain ⟨hM2, hre⟩ := hp3
    refine xw_topi (y := nI 0) (by rw [hre]; rfl) ?_
    clear hre
    refine xw_if_eq C (tgt := 21) d_Md_synthesize_16 (by decide) (pc' := 19) rfl (fun h16 => ?_) (fun h16 => ?_)
    ·
      replace h16 : 0 = 0 := (xp_eq0 (by omega)).mp h16
      refine xw_aload_n C 0 d_Md_synthesize_21 rfl rfl (pc' := 22) rfl ?_
      refine xw_iconst C (v := nI 0) d_Md_synthesize_22 (by decide) (pc' := 23) rfl ?_
      obtain ⟨M4, hM4⟩ : ∃ zq, zq = zst M2 38 3 (nI 0) := ⟨_, rfl⟩
      refine xw_put C u_Md t_Md t_Md_ok n_Md 38 zr_38 rfl 8 (by decide) k_578 rfl rfl (t_Md_ok 8 (by decide)) rfl rfl (Nat.le_of_ble_eq_true rfl) (ws' := zW ca ad M4) (by rw [hM4]; exact zs_38_3 _) d_Md_synthesize_23 (pc' := 26) rfl ?_
      have hfr : ∀ a b, a ≠ 38 → a ≠ 44 → a ≠ 45 → a ≠ 46 → a ≠ 49 → a ≠ 50 → a ≠ 51 → a ≠ 55 → M4 a b = M a b := fun a b h1 h2 h3 h4 h5 h6 h7 h8 => by rw [hM4, zst_ap, if_neg (fun q => h1 q.1), hM2, zst_ap, if_neg (fun q => h1 q.1)]
      have h38 : ∀ b, b ≠ 0 → b ≠ 3 → M4 38 b = M 38 b := fun b h1 h2 => by rw [hM4, zst_ap, if_neg (fun q => h2 q.2), hM2, zst_ap, if_neg (fun q => h1 q.2)]
      have hft : M4 38 0 = nI 0 := by rw [hM4, zst_ap, if_neg (by omega), hM2, zst_ap, if_pos ⟨rfl, rfl⟩]
      have hz3 : M4 38 3 = nI 0 := by rw [hM4, zst_ap, if_pos ⟨rfl, rfl⟩]
      have hT1 : tmOK M4 n per wk dl of := hT.keep (h38 _ (by decide) (by decide)) (fun a j h1 h2 => hfr _ _ (by omega) (by omega) (by omega) (by omega) (by omega) (by omega) (by omega) (by omega))
      refine xw_aload_n C 0 d_Md_synthesize_26 rfl rfl (pc' := 27) rfl ?_
      refine xw_callVi C (c_Md_whole l D ca ad M4 n per wk dl of hT1) ⟨zg_B C 0 k_666 k_31 k_669 q_Md_whole ⟨by decide, by decide⟩, C.2.2.2.2.1 _ k_668, C.2.2.2.2.1 _ k_11⟩ 38 zr_38 rfl rfl (fun _ _ _ _ h => h) (fun _ _ _ _ _ _ _ => trivial) rfl rfl (Nat.le_of_ble_eq_true rfl) d_Md_synthesize_27 ⟨by decide, by decide⟩ (pc' := 30) rfl (fun r5 M6 hp7 => ?_)
      obtain ⟨hme, hre⟩ := hp7
      rw [hme]
      clear hme
      rcases hre with ⟨h, hrd, hre⟩ | ⟨hnr, hre⟩
      ·
        rw [hre]
        have hh1 := hrd.1
        have hh2 := hrd.2.1
        have hmd0 : md = 0 := by omega
        refine xw_istore_n C d_Md_synthesize_30 rfl (by decide) rfl (pc' := 31) rfl ?_
        refine xw_iload_n C 0 d_Md_synthesize_31 rfl rfl (pc' := 32) rfl ?_
        refine xw_sipush C (v := nI 240) d_Md_synthesize_32 (by decide) (pc' := 35) rfl ?_
        refine xw_icmp_le C (tgt := 41) d_Md_synthesize_35 (by decide) (pc' := 38) rfl (fun h35 => ?_) (fun h35 => ?_)
        ·
          replace h35 : h ≤ 240 := (nI_leI (by omega) (by omega)).mp h35
          refine xw_iconst C (v := nI 0) d_Md_synthesize_41 (by decide) (pc' := 42) rfl ?_
          refine xw_istore_n C d_Md_synthesize_42 rfl (by decide) rfl (pc' := 43) rfl ?_
          refine xw_iconst C (v := nI 0) d_Md_synthesize_43 (by decide) (pc' := 44) rfl ?_
          refine xw_istore_n C d_Md_synthesize_44 rfl (by decide) rfl (pc' := 45) rfl ?_
          refine xw_lv [3, 2, 1, 0] rfl ?_
          exact loopN h hrd hmd0 M4 hfr h38 hft hz3 n 0 0 rfl (by omega) rfl
        ·
          replace h35 : ¬ (h ≤ 240) := fun hneg => h35 ((nI_leI (by omega) (by omega)).mpr hneg)
          omega
      ·
        rw [hre]
        have hmd0 : md = 0 := by omega
        refine xw_istore_n C d_Md_synthesize_30 rfl (by decide) rfl (pc' := 31) rfl ?_
        refine xw_iload_n C 0 d_Md_synthesize_31 rfl rfl (pc' := 32) rfl ?_
        refine xw_sipush C (v := nI 240) d_Md_synthesize_32 (by decide) (pc' := 35) rfl ?_
        refine xw_icmp_le C (tgt := 41) d_Md_synthesize_35 (by decide) (pc' := 38) rfl (fun h35 => ?_) (fun h35 => ?_)
        ·
          replace h35 : 241 ≤ 240 := (nI_leI (by omega) (by omega)).mp h35
          omega
        ·
          replace h35 : ¬ (241 ≤ 240) := fun hneg => h35 ((nI_leI (by omega) (by omega)).mpr hneg)
          refine xw_bipush C (v := (-3)) d_Md_synthesize_38 (by decide) (pc' := 40) rfl ?_
          refine xw_iret C hr hlk (F := zW ca ad) M4 rfl ?_ d_Md_synthesize_40
          exact Or.inr ⟨hmd0, hft, hfr, h38, Or.inl ⟨hnr, rfl, hz3⟩⟩
    ·
      replace h16 : ¬ (0 = 0) := fun hneg => h16 ((xp_eq0 (by omega)).mpr hneg)
      omega
  ·
    replace h5 : ¬ (md = 0) := fun hneg => h5 ((xp_eq0 (by omega)).mpr hneg)
    refine xw_iconst C (v := nI 1) d_Md_synthesize_8 (by decide) (pc' := 9) rfl ?_
    refine xw_goto C (tgt := 13) d_Md_synthesize_9 (by decide) ?_
    refine xw_callVi C (c_Md_refused l D ca ad M 1 (by omega)) ⟨zg_B C 1 k_646 k_31 k_649 q_Md_refused ⟨by decide, by decide⟩, C.2.2.2.2.1 _ k_648, C.2.2.2.2.1 _ k_10⟩ 38 zr_38 rfl rfl (fun _ _ _ _ h => h) (fun _ _ _ _ _ _ _ => trivial) rfl rfl (Nat.le_of_ble_eq_true rfl) d_Md_synthesize_13 ⟨by decide, by decide⟩ (pc' := 16) rfl (fun r8 M9 hp10 => ?_)
    obtain ⟨hM9, hre⟩ := hp10
    refine xw_topi (y := nI 1) (by rw [hre]; rfl) ?_
    clear hre
    refine xw_if_eq C (tgt := 21) d_Md_synthesize_16 (by decide) (pc' := 19) rfl (fun h16 => ?_) (fun h16 => ?_)
    ·
      replace h16 : 1 = 0 := (xp_eq0 (by omega)).mp h16
      omega
    ·
      replace h16 : ¬ (1 = 0) := fun hneg => h16 ((xp_eq0 (by omega)).mpr hneg)
      refine xw_iconst C (v := nI 0) d_Md_synthesize_19 (by decide) (pc' := 20) rfl ?_
      refine xw_iret C hr hlk (F := zW ca ad) M9 rfl ?_ d_Md_synthesize_20
      exact Or.inl ⟨by omega, hM9⟩
