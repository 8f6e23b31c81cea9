theorem zst_self {M : Nat → Nat → Int32} {k j : Nat} : zst M k j (M k j) = M := zM_ext fun a b => by
  rw [zst_ap]
  by_cases h : a = k ∧ b = j
  · rw [if_pos h, h.1, h.2]
  · rw [if_neg h]
def zInY (M : Nat → Nat → Int32) (t pl : Nat) : Nat → Nat → Int32 := zStp (lowb 4 (M 47 pl)) (lowb 2 ((M 47 pl) >>> (nI 4 &&& 31))) (lowb 2 ((M 47 pl) >>> (nI 6 &&& 31))) ((M 47 pl) >>> (nI 8 &&& 31)) (zst M 52 t (nI ((pl + 1) % 64))) 52 t 53 (fun a => 4 * t + a) 48
def zRgY (M : Nat → Nat → Int32) (t : Nat) : Nat → Nat → Nat → Int32
  | 0 => M
  | i + 1 => zst (zRgY M t i) 53 (4 * t + i) (nI 0)
theorem zRgY_out {M : Nat → Nat → Int32} {t i a b : Nat} (h : a ≠ 53) : zRgY M t i a b = M a b := by
  induction i with
  | zero => rfl
  | succ i ih =>
    show zst (zRgY M t i) 53 (4 * t + i) (nI 0) a b = M a b
    rw [zst_ap, if_neg (fun q => h q.1)]; exact ih
def zJbY (M : Nat → Nat → Int32) (t : Nat) (e tm : Int32) : Nat → Nat → Int32 := zRgY (zst (zst (zst (zst M 49 t (nI 1)) 50 t tm) 51 t (nI 0)) 52 t e) t 4
def zReY (M : Nat → Nat → Int32) (of per : Nat → Nat) (tm : Nat) : Nat → Nat → Nat → Int32
  | 0 => M
  | i + 1 => if sp_rel (of i) (per i) tm then zJbY (zReY M of per tm i) i (M 43 i) (nI tm) else zReY M of per tm i
theorem zJbY_out {M : Nat → Nat → Int32} {t : Nat} {e tm : Int32} {a b : Nat} (h : a < 49 ∨ 53 < a) : zJbY M t e tm a b = M a b := by
  unfold zJbY
  rw [zRgY_out (by omega), zst_ap, if_neg (by omega), zst_ap, if_neg (by omega), zst_ap, if_neg (by omega), zst_ap, if_neg (by omega)]
theorem zReY_out {M : Nat → Nat → Int32} {of per : Nat → Nat} {tm i a b : Nat} (h : a < 49 ∨ 53 < a) : zReY M of per tm i a b = M a b := by
  induction i with
  | zero => rfl
  | succ i ih =>
    show (if sp_rel (of i) (per i) tm then zJbY (zReY M of per tm i) i (M 43 i) (nI tm) else zReY M of per tm i) a b = M a b
    by_cases c : sp_rel (of i) (per i) tm
    · rw [if_pos c, zJbY_out h]; exact ih
    · rw [if_neg c]; exact ih
def zEnY1 (M : Nat → Nat → Int32) (t o : Nat) : Nat → Nat → Int32 := zst (zst M 49 t (nI 0)) 54 (4 * t + o - 1) (zst M 49 t (nI 0) 54 (4 * t + o - 1) + nI 1)
def zEnY (M : Nat → Nat → Int32) (t o : Nat) : Nat → Nat → Int32 := if o = 1 ∧ zEnY1 M t o 54 (4 * t + 3) < zEnY1 M t o 38 4 - zEnY1 M t o 50 t then zst (zEnY1 M t o) 54 (4 * t + 3) (zEnY1 M t o 38 4 - zEnY1 M t o 50 t) else zEnY1 M t o
def zSvY (M : Nat → Nat → Int32) (t pl hd w : Nat) : Nat → Nat → Int32 := if sv_out (lowb 4 (M 47 pl)) hd w = 0 then zst (zInY M t pl) 51 t (nI (hd + 1)) else zEnY (zst (zInY M t pl) 51 t (nI (hd + 1))) t (sv_out (lowb 4 (M 47 pl)) hd w)
theorem zInY_out {M : Nat → Nat → Int32} {t pl a b : Nat} (h1 : ¬ (a = 52 ∧ b = t)) (h2 : a ≠ 53) (h3 : a ≠ 48) : zInY M t pl a b = M a b := by
  unfold zInY
  rw [zStp_out h1 h2 h3, zst_ap, if_neg h1]

set_option maxHeartbeats 4000000 in
set_option maxRecDepth 100000 in
/-- instruct -/
theorem c_Md_instruct (l : Launch) (D : va_G) (ca : Nat → ClassId) (ad : Nat → Nat) (M : Nat → Nat → Int32) (t pl : Nat) (ht : t < 6) (hpl : M 52 t = nI pl) (hpb : pl < 64) : xw_Mi l y_Md_instruct (.code y_Md_instruct b_Md_instruct 6 (some .int) :: zG) { frames := 0, cells := 0, slots := 0, locals := 0 } D zCl (zT ca) [.ref (ad 38), .int (nI t)] (zW ca ad M) (fun _ => True) 0 0 (zW ca ad) (fun r M' => M' = zInY M t pl ∧ r = nI (mc_out (lowb 4 (M 47 pl)))) := by
  intro sz
  refine xw_met (cc := b_Md_instruct) (maxL := 6) (ret := (some .int)) (by decide) rfl (Nat.le_of_ble_eq_true rfl) (fun p e s m args below meth c hr hlk hnm hsz hKs C => ?_)
  refine xw_lvE (lv' := [(0, .ref (ad 38)), (1, .int (nI t))]) rfl ?_
  refine xw_aload_n C 0 d_Md_instruct_0 rfl rfl (pc' := 1) rfl ?_
  refine xw_get C u_Md 38 zr_38 rfl 12 (by decide) k_582 rfl rfl d_Md_instruct_1 (pc' := 4) rfl ?_
  refine xw_aload_n C 0 d_Md_instruct_4 rfl rfl (pc' := 5) rfl ?_
  refine xw_get C u_Md 38 zr_38 rfl 18 (by decide) k_588 rfl rfl d_Md_instruct_5 (pc' := 8) rfl ?_
  refine xw_iload_n C 1 d_Md_instruct_8 rfl rfl (pc' := 9) rfl ?_
  refine xw_iald C 52 0 zr_52 rfl t rfl (by omega) (by decide) d_Md_instruct_9 (pc' := 10) rfl ?_
  refine xw_topi (y := nI pl) hpl ?_
  refine xw_iald C 47 0 zr_47 rfl pl rfl (by omega) (by decide) d_Md_instruct_10 (pc' := 11) rfl ?_
  obtain ⟨v, h_v⟩ : ∃ z, z = M 47 pl := ⟨_, rfl⟩
  refine xw_topi (y := v) h_v.symm ?_
  refine xw_istore_n C d_Md_instruct_11 rfl (by decide) rfl (pc' := 12) rfl ?_
  refine xw_aload_n C 1 d_Md_instruct_12 rfl rfl (pc' := 13) rfl ?_
  refine xw_get C u_Md 38 zr_38 rfl 18 (by decide) k_588 rfl rfl d_Md_instruct_13 (pc' := 16) rfl ?_
  refine xw_iload_n C 2 d_Md_instruct_16 rfl rfl (pc' := 17) rfl ?_
  refine xw_aload_n C 1 d_Md_instruct_17 rfl rfl (pc' := 18) rfl ?_
  refine xw_get C u_Md 38 zr_38 rfl 18 (by decide) k_588 rfl rfl d_Md_instruct_18 (pc' := 21) rfl ?_
  refine xw_iload_n C 2 d_Md_instruct_21 rfl rfl (pc' := 22) rfl ?_
  refine xw_iald C 52 0 zr_52 rfl t rfl (by omega) (by decide) d_Md_instruct_22 (pc' := 23) rfl ?_
  refine xw_topi (y := nI pl) hpl ?_
  refine xw_iconst C (v := nI 1) d_Md_instruct_23 (by decide) (pc' := 24) rfl ?_
  refine xw_iadd C d_Md_instruct_24 (pc' := 25) rfl ?_
  refine xw_topi (y := nI (pl + 1)) (nI_add _ _) ?_
  refine xw_bipush C (v := nI 64) d_Md_instruct_25 (by decide) (pc' := 27) rfl ?_
  refine xw_irem C d_Md_instruct_27 (nI_ne0 (by omega) (by omega)) (pc' := 28) rfl ?_
  refine xw_topi (y := nI ((pl + 1) % 64)) (pk_rem (by omega) (by omega) (by omega)) ?_
  have hm27 : (pl + 1) % 64 < 64 := Nat.mod_lt _ (by omega)
  obtain ⟨M1, hM1⟩ : ∃ zq, zq = zst M 52 t (nI ((pl + 1) % 64)) := ⟨_, rfl⟩
  refine xw_iast C 52 0 zr_52 rfl t rfl (by omega) (by decide) (ws' := zW ca ad M1) (by rw [hM1]; exact zs_52 _ _) d_Md_instruct_28 (pc' := 29) rfl ?_
  refine xw_iconst C (v := nI 4) d_Md_instruct_29 (by decide) (pc' := 30) rfl ?_
  refine xw_iload_n C 2 d_Md_instruct_30 rfl rfl (pc' := 31) rfl ?_
  refine xw_imul C d_Md_instruct_31 (pc' := 32) rfl ?_
  refine xw_topi (y := nI (4 * t)) (pk_mul _ _) ?_
  refine xw_iload_n C 0 d_Md_instruct_32 rfl rfl (pc' := 33) rfl ?_
  refine xw_iconst C (v := nI 4) d_Md_instruct_33 (by decide) (pc' := 34) rfl ?_
  refine xw_ishr C d_Md_instruct_34 (pc' := 35) rfl ?_
  refine xw_iconst C (v := nI 3) d_Md_instruct_35 (by decide) (pc' := 36) rfl ?_
  obtain ⟨a, ha⟩ : ∃ zq, zq = lowb 2 (v >>> (nI 4 &&& 31)) := ⟨_, rfl⟩
  have hal : a < 4 := by rw [ha]; exact lowb_lt 2 _
  refine xw_iand C d_Md_instruct_36 (pc' := 37) rfl ?_
  refine xw_topi (y := nI a) (by rw [ha]; exact lowb_2 _) ?_
  refine xw_iadd C d_Md_instruct_37 (pc' := 38) rfl ?_
  refine xw_topi (y := nI ((4 * t) + a)) (nI_add _ _) ?_
  refine xw_istore_n C d_Md_instruct_38 rfl (by decide) rfl (pc' := 39) rfl ?_
  refine xw_iconst C (v := nI 4) d_Md_instruct_39 (by decide) (pc' := 40) rfl ?_
  refine xw_iload_n C 3 d_Md_instruct_40 rfl rfl (pc' := 41) rfl ?_
  refine xw_imul C d_Md_instruct_41 (pc' := 42) rfl ?_
  refine xw_topi (y := nI (4 * t)) (pk_mul _ _) ?_
  refine xw_iload_n C 1 d_Md_instruct_42 rfl rfl (pc' := 43) rfl ?_
  refine xw_bipush C (v := nI 6) d_Md_instruct_43 (by decide) (pc' := 45) rfl ?_
  refine xw_ishr C d_Md_instruct_45 (pc' := 46) rfl ?_
  refine xw_iconst C (v := nI 3) d_Md_instruct_46 (by decide) (pc' := 47) rfl ?_
  obtain ⟨b, hb⟩ : ∃ zq, zq = lowb 2 (v >>> (nI 6 &&& 31)) := ⟨_, rfl⟩
  have hbl : b < 4 := by rw [hb]; exact lowb_lt 2 _
  refine xw_iand C d_Md_instruct_47 (pc' := 48) rfl ?_
  refine xw_topi (y := nI b) (by rw [hb]; exact lowb_2 _) ?_
  refine xw_iadd C d_Md_instruct_48 (pc' := 49) rfl ?_
  refine xw_topi (y := nI ((4 * t) + b)) (nI_add _ _) ?_
  refine xw_istore C d_Md_instruct_49 (by decide) rfl (pc' := 51) rfl ?_
  refine xw_iload_n C 2 d_Md_instruct_51 rfl rfl (pc' := 52) rfl ?_
  refine xw_bipush C (v := nI 8) d_Md_instruct_52 (by decide) (pc' := 54) rfl ?_
  refine xw_ishr C d_Md_instruct_54 (pc' := 55) rfl ?_
  obtain ⟨nn, h_nn⟩ : ∃ z, z = v >>> ((nI 8) &&& 31) := ⟨_, rfl⟩
  refine xw_topi (y := nn) h_nn.symm ?_
  refine xw_istore C d_Md_instruct_55 (by decide) rfl (pc' := 57) rfl ?_
  refine xw_iload_n C 3 d_Md_instruct_57 rfl rfl (pc' := 58) rfl ?_
  refine xw_bipush C (v := nI 15) d_Md_instruct_58 (by decide) (pc' := 60) rfl ?_
  obtain ⟨o, ho⟩ : ∃ zq, zq = lowb 4 v := ⟨_, rfl⟩
  have hol : o < 16 := by rw [ho]; exact lowb_lt 4 _
  refine xw_iand C d_Md_instruct_60 (pc' := 61) rfl ?_
  refine xw_topi (y := nI o) (by rw [ho]; exact lowb_4 _) ?_
  rcases (show o = 0 ∨ o = 1 ∨ o = 2 ∨ o = 3 ∨ o = 4 ∨ o = 5 ∨ o = 6 ∨ o = 7 ∨ o = 8 ∨ o = 9 ∨ o = 10 ∨ o = 11 ∨ o = 12 ∨ o = 13 ∨ o = 14 ∨ o = 15 by omega) with rfl | rfl | rfl | rfl | rfl | rfl | rfl | rfl | rfl | rfl | rfl | rfl | rfl | rfl | rfl | rfl
  ·
    refine xw_tableIn C (off := 59) (tgt := 120) d_Md_instruct_61 (by decide) (by decide) (by decide) (by decide) ?_
    refine xw_iconst C (v := nI 1) d_Md_instruct_120 (by decide) (pc' := 121) rfl ?_
    refine xw_iret C hr hlk (F := zW ca ad) M1 rfl ?_ d_Md_instruct_121
    refine ⟨?_, ?_⟩
    · unfold zInY
      rw [← h_v, ← ho, ← ha, ← hb, ← h_nn, hM1]
      rfl
    · rw [← h_v, ← ho]; rfl
  ·
    refine xw_tableIn C (off := 61) (tgt := 122) d_Md_instruct_61 (by decide) (by decide) (by decide) (by decide) ?_
    refine xw_aload_n C 4 d_Md_instruct_122 rfl rfl (pc' := 123) rfl ?_
    refine xw_get C u_Md 38 zr_38 rfl 19 (by decide) k_589 rfl rfl d_Md_instruct_123 (pc' := 126) rfl ?_
    refine xw_iload_n C 2 d_Md_instruct_126 rfl rfl (pc' := 127) rfl ?_
    refine xw_iload C 0 d_Md_instruct_127 rfl (pc' := 129) rfl ?_
    obtain ⟨M2, hM2⟩ : ∃ zq, zq = zst M1 53 ((4 * t) + a) nn := ⟨_, rfl⟩
    refine xw_iast C 53 0 zr_53 rfl ((4 * t) + a) rfl (by omega) (by decide) (ws' := zW ca ad M2) (by rw [hM2]; exact zs_53 _ _) d_Md_instruct_129 (pc' := 130) rfl ?_
    refine xw_iconst C (v := nI 0) d_Md_instruct_130 (by decide) (pc' := 131) rfl ?_
    refine xw_iret C hr hlk (F := zW ca ad) M2 rfl ?_ d_Md_instruct_131
    refine ⟨?_, ?_⟩
    · unfold zInY
      rw [← h_v, ← ho, ← ha, ← hb, ← h_nn, hM2, hM1]
      rfl
    · rw [← h_v, ← ho]; rfl
  ·
    refine xw_tableIn C (off := 71) (tgt := 132) d_Md_instruct_61 (by decide) (by decide) (by decide) (by decide) ?_
    refine xw_aload_n C 4 d_Md_instruct_132 rfl rfl (pc' := 133) rfl ?_
    refine xw_get C u_Md 38 zr_38 rfl 19 (by decide) k_589 rfl rfl d_Md_instruct_133 (pc' := 136) rfl ?_
    refine xw_iload_n C 2 d_Md_instruct_136 rfl rfl (pc' := 137) rfl ?_
    refine xw_aload_n C 4 d_Md_instruct_137 rfl rfl (pc' := 138) rfl ?_
    refine xw_get C u_Md 38 zr_38 rfl 19 (by decide) k_589 rfl rfl d_Md_instruct_138 (pc' := 141) rfl ?_
    refine xw_iload_n C 2 d_Md_instruct_141 rfl rfl (pc' := 142) rfl ?_
    refine xw_iald C 53 0 zr_53 rfl ((4 * t) + a) rfl (by omega) (by decide) d_Md_instruct_142 (pc' := 143) rfl ?_
    refine xw_aload_n C 4 d_Md_instruct_143 rfl rfl (pc' := 144) rfl ?_
    refine xw_get C u_Md 38 zr_38 rfl 19 (by decide) k_589 rfl rfl d_Md_instruct_144 (pc' := 147) rfl ?_
    refine xw_iload C 1 d_Md_instruct_147 rfl (pc' := 149) rfl ?_
    refine xw_iald C 53 0 zr_53 rfl ((4 * t) + b) rfl (by omega) (by decide) d_Md_instruct_149 (pc' := 150) rfl ?_
    refine xw_iadd C d_Md_instruct_150 (pc' := 151) rfl ?_
    obtain ⟨M3, hM3⟩ : ∃ zq, zq = zst M1 53 ((4 * t) + a) ((M1 53 ((4 * t) + a)) + (M1 53 ((4 * t) + b))) := ⟨_, rfl⟩
    refine xw_iast C 53 0 zr_53 rfl ((4 * t) + a) rfl (by omega) (by decide) (ws' := zW ca ad M3) (by rw [hM3]; exact zs_53 _ _) d_Md_instruct_151 (pc' := 152) rfl ?_
    refine xw_iconst C (v := nI 0) d_Md_instruct_152 (by decide) (pc' := 153) rfl ?_
    refine xw_iret C hr hlk (F := zW ca ad) M3 rfl ?_ d_Md_instruct_153
    refine ⟨?_, ?_⟩
    · unfold zInY
      rw [← h_v, ← ho, ← ha, ← hb, ← h_nn, hM3, hM1]
      rfl
    · rw [← h_v, ← ho]; rfl
  ·
    refine xw_tableIn C (off := 93) (tgt := 154) d_Md_instruct_61 (by decide) (by decide) (by decide) (by decide) ?_
    refine xw_aload_n C 4 d_Md_instruct_154 rfl rfl (pc' := 155) rfl ?_
    refine xw_get C u_Md 38 zr_38 rfl 19 (by decide) k_589 rfl rfl d_Md_instruct_155 (pc' := 158) rfl ?_
    refine xw_iload_n C 2 d_Md_instruct_158 rfl rfl (pc' := 159) rfl ?_
    refine xw_aload_n C 4 d_Md_instruct_159 rfl rfl (pc' := 160) rfl ?_
    refine xw_get C u_Md 38 zr_38 rfl 19 (by decide) k_589 rfl rfl d_Md_instruct_160 (pc' := 163) rfl ?_
    refine xw_iload_n C 2 d_Md_instruct_163 rfl rfl (pc' := 164) rfl ?_
    refine xw_iald C 53 0 zr_53 rfl ((4 * t) + a) rfl (by omega) (by decide) d_Md_instruct_164 (pc' := 165) rfl ?_
    refine xw_aload_n C 4 d_Md_instruct_165 rfl rfl (pc' := 166) rfl ?_
    refine xw_get C u_Md 38 zr_38 rfl 19 (by decide) k_589 rfl rfl d_Md_instruct_166 (pc' := 169) rfl ?_
    refine xw_iload C 1 d_Md_instruct_169 rfl (pc' := 171) rfl ?_
    refine xw_iald C 53 0 zr_53 rfl ((4 * t) + b) rfl (by omega) (by decide) d_Md_instruct_171 (pc' := 172) rfl ?_
    refine xw_isub C d_Md_instruct_172 (pc' := 173) rfl ?_
    obtain ⟨M4, hM4⟩ : ∃ zq, zq = zst M1 53 ((4 * t) + a) ((M1 53 ((4 * t) + a)) - (M1 53 ((4 * t) + b))) := ⟨_, rfl⟩
    refine xw_iast C 53 0 zr_53 rfl ((4 * t) + a) rfl (by omega) (by decide) (ws' := zW ca ad M4) (by rw [hM4]; exact zs_53 _ _) d_Md_instruct_173 (pc' := 174) rfl ?_
    refine xw_iconst C (v := nI 0) d_Md_instruct_174 (by decide) (pc' := 175) rfl ?_
    refine xw_iret C hr hlk (F := zW ca ad) M4 rfl ?_ d_Md_instruct_175
    refine ⟨?_, ?_⟩
    · unfold zInY
      rw [← h_v, ← ho, ← ha, ← hb, ← h_nn, hM4, hM1]
      rfl
    · rw [← h_v, ← ho]; rfl
  ·
    refine xw_tableIn C (off := 115) (tgt := 176) d_Md_instruct_61 (by decide) (by decide) (by decide) (by decide) ?_
    refine xw_aload_n C 4 d_Md_instruct_176 rfl rfl (pc' := 177) rfl ?_
    refine xw_get C u_Md 38 zr_38 rfl 19 (by decide) k_589 rfl rfl d_Md_instruct_177 (pc' := 180) rfl ?_
    refine xw_iload_n C 2 d_Md_instruct_180 rfl rfl (pc' := 181) rfl ?_
    refine xw_aload_n C 4 d_Md_instruct_181 rfl rfl (pc' := 182) rfl ?_
    refine xw_get C u_Md 38 zr_38 rfl 19 (by decide) k_589 rfl rfl d_Md_instruct_182 (pc' := 185) rfl ?_
    refine xw_iload_n C 2 d_Md_instruct_185 rfl rfl (pc' := 186) rfl ?_
    refine xw_iald C 53 0 zr_53 rfl ((4 * t) + a) rfl (by omega) (by decide) d_Md_instruct_186 (pc' := 187) rfl ?_
    refine xw_aload_n C 4 d_Md_instruct_187 rfl rfl (pc' := 188) rfl ?_
    refine xw_get C u_Md 38 zr_38 rfl 19 (by decide) k_589 rfl rfl d_Md_instruct_188 (pc' := 191) rfl ?_
    refine xw_iload C 1 d_Md_instruct_191 rfl (pc' := 193) rfl ?_
    refine xw_iald C 53 0 zr_53 rfl ((4 * t) + b) rfl (by omega) (by decide) d_Md_instruct_193 (pc' := 194) rfl ?_
    refine xw_imul C d_Md_instruct_194 (pc' := 195) rfl ?_
    obtain ⟨M5, hM5⟩ : ∃ zq, zq = zst M1 53 ((4 * t) + a) ((M1 53 ((4 * t) + a)) * (M1 53 ((4 * t) + b))) := ⟨_, rfl⟩
    refine xw_iast C 53 0 zr_53 rfl ((4 * t) + a) rfl (by omega) (by decide) (ws' := zW ca ad M5) (by rw [hM5]; exact zs_53 _ _) d_Md_instruct_195 (pc' := 196) rfl ?_
    refine xw_iconst C (v := nI 0) d_Md_instruct_196 (by decide) (pc' := 197) rfl ?_
    refine xw_iret C hr hlk (F := zW ca ad) M5 rfl ?_ d_Md_instruct_197
    refine ⟨?_, ?_⟩
    · unfold zInY
      rw [← h_v, ← ho, ← ha, ← hb, ← h_nn, hM5, hM1]
      rfl
    · rw [← h_v, ← ho]; rfl
  ·
    refine xw_tableIn C (off := 137) (tgt := 198) d_Md_instruct_61 (by decide) (by decide) (by decide) (by decide) ?_
    refine xw_aload_n C 4 d_Md_instruct_198 rfl rfl (pc' := 199) rfl ?_
    refine xw_get C u_Md 38 zr_38 rfl 19 (by decide) k_589 rfl rfl d_Md_instruct_199 (pc' := 202) rfl ?_
    refine xw_iload_n C 2 d_Md_instruct_202 rfl rfl (pc' := 203) rfl ?_
    refine xw_aload_n C 4 d_Md_instruct_203 rfl rfl (pc' := 204) rfl ?_
    refine xw_get C u_Md 38 zr_38 rfl 13 (by decide) k_583 rfl rfl d_Md_instruct_204 (pc' := 207) rfl ?_
    refine xw_aload_n C 4 d_Md_instruct_207 rfl rfl (pc' := 208) rfl ?_
    refine xw_get C u_Md 38 zr_38 rfl 19 (by decide) k_589 rfl rfl d_Md_instruct_208 (pc' := 211) rfl ?_
    refine xw_iload C 1 d_Md_instruct_211 rfl (pc' := 213) rfl ?_
    refine xw_iald C 53 0 zr_53 rfl ((4 * t) + b) rfl (by omega) (by decide) d_Md_instruct_213 (pc' := 214) rfl ?_
    refine xw_bipush C (v := nI 15) d_Md_instruct_214 (by decide) (pc' := 216) rfl ?_
    refine xw_iand C d_Md_instruct_216 (pc' := 217) rfl ?_
    refine xw_topi (y := nI (lowb 4 (M1 53 (4 * t + b)))) (lowb_4 _) ?_
    refine xw_iald C 48 0 zr_48 rfl (lowb 4 (M1 53 (4 * t + b))) rfl (lowb_lt 4 _) (by decide) d_Md_instruct_217 (pc' := 218) rfl ?_
    obtain ⟨M6, hM6⟩ : ∃ zq, zq = zst M1 53 ((4 * t) + a) (M1 48 (lowb 4 (M1 53 (4 * t + b)))) := ⟨_, rfl⟩
    refine xw_iast C 53 0 zr_53 rfl ((4 * t) + a) rfl (by omega) (by decide) (ws' := zW ca ad M6) (by rw [hM6]; exact zs_53 _ _) d_Md_instruct_218 (pc' := 219) rfl ?_
    refine xw_iconst C (v := nI 0) d_Md_instruct_219 (by decide) (pc' := 220) rfl ?_
    refine xw_iret C hr hlk (F := zW ca ad) M6 rfl ?_ d_Md_instruct_220
    refine ⟨?_, ?_⟩
    · unfold zInY
      rw [← h_v, ← ho, ← ha, ← hb, ← h_nn, hM6, hM1]
      rfl
    · rw [← h_v, ← ho]; rfl
  ·
    refine xw_tableIn C (off := 160) (tgt := 221) d_Md_instruct_61 (by decide) (by decide) (by decide) (by decide) ?_
    refine xw_aload_n C 4 d_Md_instruct_221 rfl rfl (pc' := 222) rfl ?_
    refine xw_get C u_Md 38 zr_38 rfl 13 (by decide) k_583 rfl rfl d_Md_instruct_222 (pc' := 225) rfl ?_
    refine xw_aload_n C 4 d_Md_instruct_225 rfl rfl (pc' := 226) rfl ?_
    refine xw_get C u_Md 38 zr_38 rfl 19 (by decide) k_589 rfl rfl d_Md_instruct_226 (pc' := 229) rfl ?_
    refine xw_iload C 1 d_Md_instruct_229 rfl (pc' := 231) rfl ?_
    refine xw_iald C 53 0 zr_53 rfl ((4 * t) + b) rfl (by omega) (by decide) d_Md_instruct_231 (pc' := 232) rfl ?_
    refine xw_bipush C (v := nI 15) d_Md_instruct_232 (by decide) (pc' := 234) rfl ?_
    refine xw_iand C d_Md_instruct_234 (pc' := 235) rfl ?_
    refine xw_topi (y := nI (lowb 4 (M1 53 (4 * t + b)))) (lowb_4 _) ?_
    refine xw_aload_n C 4 d_Md_instruct_235 rfl rfl (pc' := 236) rfl ?_
    refine xw_get C u_Md 38 zr_38 rfl 19 (by decide) k_589 rfl rfl d_Md_instruct_236 (pc' := 239) rfl ?_
    refine xw_iload_n C 2 d_Md_instruct_239 rfl rfl (pc' := 240) rfl ?_
    refine xw_iald C 53 0 zr_53 rfl ((4 * t) + a) rfl (by omega) (by decide) d_Md_instruct_240 (pc' := 241) rfl ?_
    obtain ⟨M7, hM7⟩ : ∃ zq, zq = zst M1 48 (lowb 4 (M1 53 (4 * t + b))) (M1 53 ((4 * t) + a)) := ⟨_, rfl⟩
    refine xw_iast C 48 0 zr_48 rfl (lowb 4 (M1 53 (4 * t + b))) rfl (lowb_lt 4 _) (by decide) (ws' := zW ca ad M7) (by rw [hM7]; exact zs_48 _ _) d_Md_instruct_241 (pc' := 242) rfl ?_
    refine xw_iconst C (v := nI 0) d_Md_instruct_242 (by decide) (pc' := 243) rfl ?_
    refine xw_iret C hr hlk (F := zW ca ad) M7 rfl ?_ d_Md_instruct_243
    refine ⟨?_, ?_⟩
    · unfold zInY
      rw [← h_v, ← ho, ← ha, ← hb, ← h_nn, hM7, hM1]
      rfl
    · rw [← h_v, ← ho]; rfl
  ·
    refine xw_tableIn C (off := 183) (tgt := 244) d_Md_instruct_61 (by decide) (by decide) (by decide) (by decide) ?_
    refine xw_aload_n C 4 d_Md_instruct_244 rfl rfl (pc' := 245) rfl ?_
    refine xw_get C u_Md 38 zr_38 rfl 18 (by decide) k_588 rfl rfl d_Md_instruct_245 (pc' := 248) rfl ?_
    refine xw_iload_n C 5 d_Md_instruct_248 rfl rfl (pc' := 249) rfl ?_
    refine xw_aload_n C 4 d_Md_instruct_249 rfl rfl (pc' := 250) rfl ?_
    refine xw_get C u_Md 38 zr_38 rfl 19 (by decide) k_589 rfl rfl d_Md_instruct_250 (pc' := 253) rfl ?_
    refine xw_iload_n C 2 d_Md_instruct_253 rfl rfl (pc' := 254) rfl ?_
    refine xw_iald C 53 0 zr_53 rfl ((4 * t) + a) rfl (by omega) (by decide) d_Md_instruct_254 (pc' := 255) rfl ?_
    refine xw_if_ne C (tgt := 266) d_Md_instruct_255 (by decide) (pc' := 258) rfl (fun h255 => ?_) (fun h255 => ?_)
    ·
      refine xw_aload_n C 4 d_Md_instruct_266 rfl rfl (pc' := 267) rfl ?_
      refine xw_get C u_Md 38 zr_38 rfl 18 (by decide) k_588 rfl rfl d_Md_instruct_267 (pc' := 270) rfl ?_
      refine xw_iload_n C 5 d_Md_instruct_270 rfl rfl (pc' := 271) rfl ?_
      refine xw_iald C 52 0 zr_52 rfl t rfl (by omega) (by decide) d_Md_instruct_271 (pc' := 272) rfl ?_
      obtain ⟨M8, hM8⟩ : ∃ zq, zq = zst M1 52 t (M1 52 t) := ⟨_, rfl⟩
      refine xw_iast C 52 0 zr_52 rfl t rfl (by omega) (by decide) (ws' := zW ca ad M8) (by rw [hM8]; exact zs_52 _ _) d_Md_instruct_272 (pc' := 273) rfl ?_
      refine xw_iconst C (v := nI 0) d_Md_instruct_273 (by decide) (pc' := 274) rfl ?_
      refine xw_iret C hr hlk (F := zW ca ad) M8 rfl ?_ d_Md_instruct_274
      refine ⟨?_, ?_⟩
      · unfold zInY
        rw [← h_v, ← ho, ← ha, ← hb, ← h_nn, hM8, hM1]
        rw [zst_self]; rw [hM1] at h255; exact (if_neg h255).symm
      · rw [← h_v, ← ho]; rfl
    ·
      refine xw_iload C 0 d_Md_instruct_258 rfl (pc' := 260) rfl ?_
      refine xw_bipush C (v := nI 63) d_Md_instruct_260 (by decide) (pc' := 262) rfl ?_
      refine xw_iand C d_Md_instruct_262 (pc' := 263) rfl ?_
      refine xw_topi (y := nI (lowb 6 nn)) (lowb_6 _) ?_
      refine xw_goto C (tgt := 272) d_Md_instruct_263 (by decide) ?_
      obtain ⟨M9, hM9⟩ : ∃ zq, zq = zst M1 52 t (nI (lowb 6 nn)) := ⟨_, rfl⟩
      refine xw_iast C 52 0 zr_52 rfl t rfl (by omega) (by decide) (ws' := zW ca ad M9) (by rw [hM9]; exact zs_52 _ _) d_Md_instruct_272 (pc' := 273) rfl ?_
      refine xw_iconst C (v := nI 0) d_Md_instruct_273 (by decide) (pc' := 274) rfl ?_
      refine xw_iret C hr hlk (F := zW ca ad) M9 rfl ?_ d_Md_instruct_274
      refine ⟨?_, ?_⟩
      · unfold zInY
        rw [← h_v, ← ho, ← ha, ← hb, ← h_nn, hM9, hM1]
        rw [hM1] at h255; exact (if_pos h255).symm
      · rw [← h_v, ← ho]; rfl
  ·
    refine xw_tableIn C (off := 214) (tgt := 275) d_Md_instruct_61 (by decide) (by decide) (by decide) (by decide) ?_
    refine xw_aload_n C 4 d_Md_instruct_275 rfl rfl (pc' := 276) rfl ?_
    refine xw_get C u_Md 38 zr_38 rfl 18 (by decide) k_588 rfl rfl d_Md_instruct_276 (pc' := 279) rfl ?_
    refine xw_iload_n C 5 d_Md_instruct_279 rfl rfl (pc' := 280) rfl ?_
    refine xw_aload_n C 4 d_Md_instruct_280 rfl rfl (pc' := 281) rfl ?_
    refine xw_get C u_Md 38 zr_38 rfl 19 (by decide) k_589 rfl rfl d_Md_instruct_281 (pc' := 284) rfl ?_
    refine xw_iload_n C 2 d_Md_instruct_284 rfl rfl (pc' := 285) rfl ?_
    refine xw_iald C 53 0 zr_53 rfl ((4 * t) + a) rfl (by omega) (by decide) d_Md_instruct_285 (pc' := 286) rfl ?_
    refine xw_if_ge C (tgt := 297) d_Md_instruct_286 (by decide) (pc' := 289) rfl (fun h286 => ?_) (fun h286 => ?_)
    ·
      refine xw_aload_n C 4 d_Md_instruct_297 rfl rfl (pc' := 298) rfl ?_
      refine xw_get C u_Md 38 zr_38 rfl 18 (by decide) k_588 rfl rfl d_Md_instruct_298 (pc' := 301) rfl ?_
      refine xw_iload_n C 5 d_Md_instruct_301 rfl rfl (pc' := 302) rfl ?_
      refine xw_iald C 52 0 zr_52 rfl t rfl (by omega) (by decide) d_Md_instruct_302 (pc' := 303) rfl ?_
      obtain ⟨M10, hM10⟩ : ∃ zq, zq = zst M1 52 t (M1 52 t) := ⟨_, rfl⟩
      refine xw_iast C 52 0 zr_52 rfl t rfl (by omega) (by decide) (ws' := zW ca ad M10) (by rw [hM10]; exact zs_52 _ _) d_Md_instruct_303 (pc' := 304) rfl ?_
      refine xw_iconst C (v := nI 0) d_Md_instruct_304 (by decide) (pc' := 305) rfl ?_
      refine xw_iret C hr hlk (F := zW ca ad) M10 rfl ?_ d_Md_instruct_305
      refine ⟨?_, ?_⟩
      · unfold zInY
        rw [← h_v, ← ho, ← ha, ← hb, ← h_nn, hM10, hM1]
        rw [zst_self]; rw [hM1] at h286; exact (if_neg (Int32.not_lt.mpr h286)).symm
      · rw [← h_v, ← ho]; rfl
    ·
      refine xw_iload C 0 d_Md_instruct_289 rfl (pc' := 291) rfl ?_
      refine xw_bipush C (v := nI 63) d_Md_instruct_291 (by decide) (pc' := 293) rfl ?_
      refine xw_iand C d_Md_instruct_293 (pc' := 294) rfl ?_
      refine xw_topi (y := nI (lowb 6 nn)) (lowb_6 _) ?_
      refine xw_goto C (tgt := 303) d_Md_instruct_294 (by decide) ?_
      obtain ⟨M11, hM11⟩ : ∃ zq, zq = zst M1 52 t (nI (lowb 6 nn)) := ⟨_, rfl⟩
      refine xw_iast C 52 0 zr_52 rfl t rfl (by omega) (by decide) (ws' := zW ca ad M11) (by rw [hM11]; exact zs_52 _ _) d_Md_instruct_303 (pc' := 304) rfl ?_
      refine xw_iconst C (v := nI 0) d_Md_instruct_304 (by decide) (pc' := 305) rfl ?_
      refine xw_iret C hr hlk (F := zW ca ad) M11 rfl ?_ d_Md_instruct_305
      refine ⟨?_, ?_⟩
      · unfold zInY
        rw [← h_v, ← ho, ← ha, ← hb, ← h_nn, hM11, hM1]
        rw [hM1] at h286; exact (if_pos (Int32.not_le.mp h286)).symm
      · rw [← h_v, ← ho]; rfl
  ·
    refine xw_tableIn C (off := 245) (tgt := 306) d_Md_instruct_61 (by decide) (by decide) (by decide) (by decide) ?_
    refine xw_aload_n C 4 d_Md_instruct_306 rfl rfl (pc' := 307) rfl ?_
    refine xw_get C u_Md 38 zr_38 rfl 18 (by decide) k_588 rfl rfl d_Md_instruct_307 (pc' := 310) rfl ?_
    refine xw_iload_n C 5 d_Md_instruct_310 rfl rfl (pc' := 311) rfl ?_
    refine xw_iload C 0 d_Md_instruct_311 rfl (pc' := 313) rfl ?_
    refine xw_bipush C (v := nI 63) d_Md_instruct_313 (by decide) (pc' := 315) rfl ?_
    refine xw_iand C d_Md_instruct_315 (pc' := 316) rfl ?_
    refine xw_topi (y := nI (lowb 6 nn)) (lowb_6 _) ?_
    obtain ⟨M12, hM12⟩ : ∃ zq, zq = zst M1 52 t (nI (lowb 6 nn)) := ⟨_, rfl⟩
    refine xw_iast C 52 0 zr_52 rfl t rfl (by omega) (by decide) (ws' := zW ca ad M12) (by rw [hM12]; exact zs_52 _ _) d_Md_instruct_316 (pc' := 317) rfl ?_
    refine xw_iconst C (v := nI 0) d_Md_instruct_317 (by decide) (pc' := 318) rfl ?_
    refine xw_iret C hr hlk (F := zW ca ad) M12 rfl ?_ d_Md_instruct_318
    refine ⟨?_, ?_⟩
    · unfold zInY
      rw [← h_v, ← ho, ← ha, ← hb, ← h_nn, hM12, hM1]
      rfl
    · rw [← h_v, ← ho]; rfl
  ·
    refine xw_tableIn C (off := 258) (tgt := 319) d_Md_instruct_61 (by decide) (by decide) (by decide) (by decide) ?_
    refine xw_aload_n C 4 d_Md_instruct_319 rfl rfl (pc' := 320) rfl ?_
    refine xw_get C u_Md 38 zr_38 rfl 19 (by decide) k_589 rfl rfl d_Md_instruct_320 (pc' := 323) rfl ?_
    refine xw_iload_n C 2 d_Md_instruct_323 rfl rfl (pc' := 324) rfl ?_
    refine xw_aload_n C 4 d_Md_instruct_324 rfl rfl (pc' := 325) rfl ?_
    refine xw_get C u_Md 38 zr_38 rfl 19 (by decide) k_589 rfl rfl d_Md_instruct_325 (pc' := 328) rfl ?_
    refine xw_iload_n C 2 d_Md_instruct_328 rfl rfl (pc' := 329) rfl ?_
    refine xw_iald C 53 0 zr_53 rfl ((4 * t) + a) rfl (by omega) (by decide) d_Md_instruct_329 (pc' := 330) rfl ?_
    refine xw_iload C 0 d_Md_instruct_330 rfl (pc' := 332) rfl ?_
    refine xw_iadd C d_Md_instruct_332 (pc' := 333) rfl ?_
    obtain ⟨M13, hM13⟩ : ∃ zq, zq = zst M1 53 ((4 * t) + a) ((M1 53 ((4 * t) + a)) + nn) := ⟨_, rfl⟩
    refine xw_iast C 53 0 zr_53 rfl ((4 * t) + a) rfl (by omega) (by decide) (ws' := zW ca ad M13) (by rw [hM13]; exact zs_53 _ _) d_Md_instruct_333 (pc' := 334) rfl ?_
    refine xw_iconst C (v := nI 0) d_Md_instruct_334 (by decide) (pc' := 335) rfl ?_
    refine xw_iret C hr hlk (F := zW ca ad) M13 rfl ?_ d_Md_instruct_335
    refine ⟨?_, ?_⟩
    · unfold zInY
      rw [← h_v, ← ho, ← ha, ← hb, ← h_nn, hM13, hM1]
      rfl
    · rw [← h_v, ← ho]; rfl
  ·
    refine xw_tableOut C (tgt := 336) d_Md_instruct_61 (by decide) (by decide) ?_
    refine xw_iconst C (v := nI 2) d_Md_instruct_336 (by decide) (pc' := 337) rfl ?_
    refine xw_iret C hr hlk (F := zW ca ad) M1 rfl ?_ d_Md_instruct_337
    refine ⟨?_, ?_⟩
    · unfold zInY
      rw [← h_v, ← ho, ← ha, ← hb, ← h_nn, hM1]
      rfl
    · rw [← h_v, ← ho]; rfl
  ·
    refine xw_tableOut C (tgt := 336) d_Md_instruct_61 (by decide) (by decide) ?_
    refine xw_iconst C (v := nI 2) d_Md_instruct_336 (by decide) (pc' := 337) rfl ?_
    refine xw_iret C hr hlk (F := zW ca ad) M1 rfl ?_ d_Md_instruct_337
    refine ⟨?_, ?_⟩
    · unfold zInY
      rw [← h_v, ← ho, ← ha, ← hb, ← h_nn, hM1]
      rfl
    · rw [← h_v, ← ho]; rfl
  ·
    refine xw_tableOut C (tgt := 336) d_Md_instruct_61 (by decide) (by decide) ?_
    refine xw_iconst C (v := nI 2) d_Md_instruct_336 (by decide) (pc' := 337) rfl ?_
    refine xw_iret C hr hlk (F := zW ca ad) M1 rfl ?_ d_Md_instruct_337
    refine ⟨?_, ?_⟩
    · unfold zInY
      rw [← h_v, ← ho, ← ha, ← hb, ← h_nn, hM1]
      rfl
    · rw [← h_v, ← ho]; rfl
  ·
    refine xw_tableOut C (tgt := 336) d_Md_instruct_61 (by decide) (by decide) ?_
    refine xw_iconst C (v := nI 2) d_Md_instruct_336 (by decide) (pc' := 337) rfl ?_
    refine xw_iret C hr hlk (F := zW ca ad) M1 rfl ?_ d_Md_instruct_337
    refine ⟨?_, ?_⟩
    · unfold zInY
      rw [← h_v, ← ho, ← ha, ← hb, ← h_nn, hM1]
      rfl
    · rw [← h_v, ← ho]; rfl
  ·
    refine xw_tableOut C (tgt := 336) d_Md_instruct_61 (by decide) (by decide) ?_
    refine xw_iconst C (v := nI 2) d_Md_instruct_336 (by decide) (pc' := 337) rfl ?_
    refine xw_iret C hr hlk (F := zW ca ad) M1 rfl ?_ d_Md_instruct_337
    refine ⟨?_, ?_⟩
    · unfold zInY
      rw [← h_v, ← ho, ← ha, ← hb, ← h_nn, hM1]
      rfl
    · rw [← h_v, ← ho]; rfl

set_option maxHeartbeats 4000000 in
set_option maxRecDepth 100000 in
/-- release -/
theorem c_Md_release (l : Launch) (D : va_G) (ca : Nat → ClassId) (ad : Nat → Nat) (M : Nat → Nat → Int32) (t : Nat) (ht : t < 6) : xw_Mv l y_Md_release (.code y_Md_release b_Md_release 3 none :: zG) { frames := 0, cells := 0, slots := 0, locals := 0 } D zCl (zT ca) [.ref (ad 38), .int (nI t)] (zW ca ad M) (fun _ => True) 0 0 (zW ca ad) (fun M' => M' = zJbY M t (M 43 t) (M 38 4)) := by
  intro sz
  refine xw_met (cc := b_Md_release) (maxL := 3) (ret := none) (by decide) rfl (Nat.le_of_ble_eq_true rfl) (fun p e s m args below meth c hr hlk hnm hsz hKs C => ?_)
  have loop1 : ∀ (d : Nat) (i : Nat) (M1 : Nat → Nat → Int32), 4 - i = d → i ≤ 4 → M1 = zRgY (zst (zst (zst (zst M 49 t (nI 1)) 50 t (M 38 4)) 51 t (nI 0)) 52 t (M 43 t)) t i → XW p l e { frames := 0, cells := 0, slots := 0, locals := 0 } s m args below meth c D zCl (va_A (zW ca ad M) sz) s.heap 3 (zW ca ad M1) 0 0 (MQ below (va_Qv (fun M' => M' = zJbY M t (M 43 t) (M 38 4)) (xw_B D zCl (zT ca) (va_A (zW ca ad M) sz) (zW ca ad)) (va_A (zW ca ad M) sz)) args s 0 0 (va_A (zW ca ad M) sz)) 38 [(0, .ref (ad 38)), (1, .int (nI t)), (2, .int (nI i))] [] := by
    intro d
    induction d using Nat.strongRecOn with
    | _ d ih =>
      intro i M1 hd hi hM1
      refine xw_iload_n C 2 d_Md_release_38 rfl rfl (pc' := 39) rfl ?_
      refine xw_iconst C (v := nI 4) d_Md_release_39 (by decide) (pc' := 40) rfl ?_
      refine xw_icmp_ge C (tgt := 60) d_Md_release_40 (by decide) (pc' := 43) rfl (fun h40 => ?_) (fun h40 => ?_)
      ·
        replace h40 : 4 ≤ i := (nI_leI (by omega) (by omega)).mp h40
        refine xw_vret C hr hlk (F := zW ca ad) M1 rfl ?_ d_Md_release_60
        rw [hM1, show i = 4 by omega]; rfl
      ·
        replace h40 : ¬ (4 ≤ i) := fun hneg => h40 ((nI_leI (by omega) (by omega)).mpr hneg)
        refine xw_aload_n C 0 d_Md_release_43 rfl rfl (pc' := 44) rfl ?_
        refine xw_get C u_Md 38 zr_38 rfl 19 (by decide) k_589 rfl rfl d_Md_release_44 (pc' := 47) rfl ?_
        refine xw_iconst C (v := nI 4) d_Md_release_47 (by decide) (pc' := 48) rfl ?_
        refine xw_iload_n C 1 d_Md_release_48 rfl rfl (pc' := 49) rfl ?_
        refine xw_imul C d_Md_release_49 (pc' := 50) rfl ?_
        refine xw_topi (y := nI (4 * t)) (pk_mul _ _) ?_
        refine xw_iload_n C 2 d_Md_release_50 rfl rfl (pc' := 51) rfl ?_
        refine xw_iadd C d_Md_release_51 (pc' := 52) rfl ?_
        refine xw_topi (y := nI ((4 * t) + i)) (nI_add _ _) ?_
        refine xw_iconst C (v := nI 0) d_Md_release_52 (by decide) (pc' := 53) rfl ?_
        obtain ⟨M51, hM51⟩ : ∃ zq, zq = zst M1 53 ((4 * t) + i) (nI 0) := ⟨_, rfl⟩
        refine xw_iast C 53 0 zr_53 rfl ((4 * t) + i) rfl (by omega) (by decide) (ws' := zW ca ad M51) (by rw [hM51]; exact zs_53 _ _) d_Md_release_53 (pc' := 54) rfl ?_
        refine xw_iinc C 2 (v := nI (i + 1)) d_Md_release_54 rfl (xp_inc1 _) (by decide) rfl (pc' := 57) rfl ?_
        refine xw_goto C (tgt := 38) d_Md_release_57 (by decide) ?_
        refine xw_lv [1, 2, 0] rfl ?_
        exact ih (4 - (i + 1)) (by omega) (i + 1) M51 rfl (by omega) (by rw [hM51, hM1]; rfl)
  refine xw_lvE (lv' := [(0, .ref (ad 38)), (1, .int (nI t))]) rfl ?_
  refine xw_aload_n C 0 d_Md_release_0 rfl rfl (pc' := 1) rfl ?_
  refine xw_get C u_Md 38 zr_38 rfl 15 (by decide) k_585 rfl rfl d_Md_release_1 (pc' := 4) rfl ?_
  refine xw_iload_n C 1 d_Md_release_4 rfl rfl (pc' := 5) rfl ?_
  refine xw_iconst C (v := nI 1) d_Md_release_5 (by decide) (pc' := 6) rfl ?_
  obtain ⟨M1, hM1⟩ : ∃ zq, zq = zst M 49 t (nI 1) := ⟨_, rfl⟩
  have t38_4_M1 : M1 38 4 = M 38 4 := by rw [hM1, zst_ap, if_neg (by omega)]
  have t43_t_M1 : M1 43 t = M 43 t := by rw [hM1, zst_ap, if_neg (by omega)]
  refine xw_zast C 49 2 zr_49 rfl t rfl (by omega) (by decide) (ws' := zW ca ad M1) (by rw [hM1, xp_v1]; exact zs_49 _ _) d_Md_release_6 (pc' := 7) rfl ?_
  refine xw_aload_n C 0 d_Md_release_7 rfl rfl (pc' := 8) rfl ?_
  refine xw_get C u_Md 38 zr_38 rfl 16 (by decide) k_586 rfl rfl d_Md_release_8 (pc' := 11) rfl ?_
  refine xw_iload_n C 1 d_Md_release_11 rfl rfl (pc' := 12) rfl ?_
  refine xw_aload_n C 0 d_Md_release_12 rfl rfl (pc' := 13) rfl ?_
  refine xw_get C u_Md 38 zr_38 rfl 14 (by decide) k_584 rfl rfl d_Md_release_13 (pc' := 16) rfl ?_
  refine xw_topi (y := M 38 4) t38_4_M1 ?_
  obtain ⟨M2, hM2⟩ : ∃ zq, zq = zst M1 50 t (M 38 4) := ⟨_, rfl⟩
  have t38_4_M2 : M2 38 4 = M 38 4 := by rw [hM2, zst_ap, if_neg (by omega)]; exact t38_4_M1
  have t43_t_M2 : M2 43 t = M 43 t := by rw [hM2, zst_ap, if_neg (by omega)]; exact t43_t_M1
  refine xw_iast C 50 0 zr_50 rfl t rfl (by omega) (by decide) (ws' := zW ca ad M2) (by rw [hM2]; exact zs_50 _ _) d_Md_release_16 (pc' := 17) rfl ?_
  refine xw_aload_n C 0 d_Md_release_17 rfl rfl (pc' := 18) rfl ?_
  refine xw_get C u_Md 38 zr_38 rfl 17 (by decide) k_587 rfl rfl d_Md_release_18 (pc' := 21) rfl ?_
  refine xw_iload_n C 1 d_Md_release_21 rfl rfl (pc' := 22) rfl ?_
  refine xw_iconst C (v := nI 0) d_Md_release_22 (by decide) (pc' := 23) rfl ?_
  obtain ⟨M3, hM3⟩ : ∃ zq, zq = zst M2 51 t (nI 0) := ⟨_, rfl⟩
  have t38_4_M3 : M3 38 4 = M 38 4 := by rw [hM3, zst_ap, if_neg (by omega)]; exact t38_4_M2
  have t43_t_M3 : M3 43 t = M 43 t := by rw [hM3, zst_ap, if_neg (by omega)]; exact t43_t_M2
  refine xw_iast C 51 0 zr_51 rfl t rfl (by omega) (by decide) (ws' := zW ca ad M3) (by rw [hM3]; exact zs_51 _ _) d_Md_release_23 (pc' := 24) rfl ?_
  refine xw_aload_n C 0 d_Md_release_24 rfl rfl (pc' := 25) rfl ?_
  refine xw_get C u_Md 38 zr_38 rfl 18 (by decide) k_588 rfl rfl d_Md_release_25 (pc' := 28) rfl ?_
  refine xw_iload_n C 1 d_Md_release_28 rfl rfl (pc' := 29) rfl ?_
  refine xw_aload_n C 0 d_Md_release_29 rfl rfl (pc' := 30) rfl ?_
  refine xw_get C u_Md 38 zr_38 rfl 7 (by decide) k_577 rfl rfl d_Md_release_30 (pc' := 33) rfl ?_
  refine xw_iload_n C 1 d_Md_release_33 rfl rfl (pc' := 34) rfl ?_
  refine xw_iald C 43 0 zr_43 rfl t rfl (by omega) (by decide) d_Md_release_34 (pc' := 35) rfl ?_
  refine xw_topi (y := M 43 t) t43_t_M3 ?_
  obtain ⟨M4, hM4⟩ : ∃ zq, zq = zst M3 52 t (M 43 t) := ⟨_, rfl⟩
  have t38_4_M4 : M4 38 4 = M 38 4 := by rw [hM4, zst_ap, if_neg (by omega)]; exact t38_4_M3
  have t43_t_M4 : M4 43 t = M 43 t := by rw [hM4, zst_ap, if_neg (by omega)]; exact t43_t_M3
  refine xw_iast C 52 0 zr_52 rfl t rfl (by omega) (by decide) (ws' := zW ca ad M4) (by rw [hM4]; exact zs_52 _ _) d_Md_release_35 (pc' := 36) rfl ?_
  refine xw_iconst C (v := nI 0) d_Md_release_36 (by decide) (pc' := 37) rfl ?_
  refine xw_istore_n C d_Md_release_37 rfl (by decide) rfl (pc' := 38) rfl ?_
  refine xw_lv [1, 2, 0] rfl ?_
  exact loop1 4 0 M4 rfl (by omega) (by rw [hM4, hM3, hM2, hM1]; rfl)

theorem zReY_yes {M : Nat → Nat → Int32} {of per : Nat → Nat} {tm i t : Nat} (ht : t < i) (hr : sp_rel (of t) (per t) tm) : zReY M of per tm i 49 t = nI 1 ∧ zReY M of per tm i 50 t = nI tm ∧ zReY M of per tm i 51 t = nI 0 ∧ zReY M of per tm i 52 t = M 43 t ∧ ∀ j, j < 4 → zReY M of per tm i 53 (4 * t + j) = nI 0 := by
  induction i with
  | zero => exact absurd ht (Nat.not_lt_zero _)
  | succ i ih =>
    have e : zReY M of per tm (i + 1) = if sp_rel (of i) (per i) tm then zJbY (zReY M of per tm i) i (M 43 i) (nI tm) else zReY M of per tm i := rfl
    rw [e]
    by_cases d : t = i
    · subst d
      rw [if_pos hr]
      have k53 : ∀ (Q : Nat → Nat → Int32) (q j : Nat), j < q → zRgY Q t q 53 (4 * t + j) = nI 0 := by
        intro Q q
        induction q with
        | zero => intro j hj; omega
        | succ q ihq =>
          intro j hj
          show zst (zRgY Q t q) 53 (4 * t + q) (nI 0) 53 (4 * t + j) = nI 0
          rw [zst_ap]
          by_cases c : j = q
          · rw [if_pos ⟨rfl, by rw [c]⟩]
          · rw [if_neg (by omega)]; exact ihq j (by omega)
      unfold zJbY
      refine ⟨?_, ?_, ?_, ?_, fun j hj => k53 _ 4 j hj⟩
      · rw [zRgY_out (by omega), zst_ap, if_neg (by omega), zst_ap, if_neg (by omega), zst_ap, if_neg (by omega), zst_ap, if_pos ⟨rfl, rfl⟩]
      · rw [zRgY_out (by omega), zst_ap, if_neg (by omega), zst_ap, if_neg (by omega), zst_ap, if_pos ⟨rfl, rfl⟩]
      · rw [zRgY_out (by omega), zst_ap, if_neg (by omega), zst_ap, if_pos ⟨rfl, rfl⟩]
      · rw [zRgY_out (by omega), zst_ap, if_pos ⟨rfl, rfl⟩]
    · have q := ih (by omega)
      by_cases c : sp_rel (of i) (per i) tm
      · rw [if_pos c]
        have k53 : ∀ (Q : Nat → Nat → Int32) (r j : Nat), r ≤ 4 → j < 4 → zRgY Q i r 53 (4 * t + j) = Q 53 (4 * t + j) := by
          intro Q r
          induction r with
          | zero => intro j _ _; rfl
          | succ r ihr =>
            intro j h4 hj
            show zst (zRgY Q i r) 53 (4 * i + r) (nI 0) 53 (4 * t + j) = _
            rw [zst_ap, if_neg (by omega)]; exact ihr j (by omega) hj
        unfold zJbY
        refine ⟨?_, ?_, ?_, ?_, fun j hj => ?_⟩
        · rw [zRgY_out (by omega), zst_ap, if_neg (by omega), zst_ap, if_neg (by omega), zst_ap, if_neg (by omega), zst_ap, if_neg (by omega)]; exact q.1
        · rw [zRgY_out (by omega), zst_ap, if_neg (by omega), zst_ap, if_neg (by omega), zst_ap, if_neg (by omega), zst_ap, if_neg (by omega)]; exact q.2.1
        · rw [zRgY_out (by omega), zst_ap, if_neg (by omega), zst_ap, if_neg (by omega), zst_ap, if_neg (by omega), zst_ap, if_neg (by omega)]; exact q.2.2.1
        · rw [zRgY_out (by omega), zst_ap, if_neg (by omega), zst_ap, if_neg (by omega), zst_ap, if_neg (by omega), zst_ap, if_neg (by omega)]; exact q.2.2.2.1
        · rw [k53 _ 4 j (by omega) hj, zst_ap, if_neg (by omega), zst_ap, if_neg (by omega), zst_ap, if_neg (by omega), zst_ap, if_neg (by omega)]; exact q.2.2.2.2 j hj
      · rw [if_neg c]; exact q
theorem zReY_no {M : Nat → Nat → Int32} {of per : Nat → Nat} {tm i t : Nat} (hr : ¬ sp_rel (of t) (per t) tm) : zReY M of per tm i 49 t = M 49 t ∧ zReY M of per tm i 50 t = M 50 t ∧ zReY M of per tm i 51 t = M 51 t ∧ zReY M of per tm i 52 t = M 52 t ∧ ∀ j, j < 4 → zReY M of per tm i 53 (4 * t + j) = M 53 (4 * t + j) := by
  induction i with
  | zero => exact ⟨rfl, rfl, rfl, rfl, fun _ _ => rfl⟩
  | succ i ih =>
    have e : zReY M of per tm (i + 1) = if sp_rel (of i) (per i) tm then zJbY (zReY M of per tm i) i (M 43 i) (nI tm) else zReY M of per tm i := rfl
    rw [e]
    by_cases c : sp_rel (of i) (per i) tm
    · have d : t ≠ i := fun h => hr (by rw [h]; exact c)
      rw [if_pos c]
      have k53 : ∀ (Q : Nat → Nat → Int32) (r j : Nat), r ≤ 4 → j < 4 → zRgY Q i r 53 (4 * t + j) = Q 53 (4 * t + j) := by
        intro Q r
        induction r with
        | zero => intro j _ _; rfl
        | succ r ihr =>
          intro j h4 hj
          show zst (zRgY Q i r) 53 (4 * i + r) (nI 0) 53 (4 * t + j) = _
          rw [zst_ap, if_neg (by omega)]; exact ihr j (by omega) hj
      unfold zJbY
      refine ⟨?_, ?_, ?_, ?_, fun j hj => ?_⟩
      · rw [zRgY_out (by omega), zst_ap, if_neg (by omega), zst_ap, if_neg (by omega), zst_ap, if_neg (by omega), zst_ap, if_neg (by omega)]; exact ih.1
      · rw [zRgY_out (by omega), zst_ap, if_neg (by omega), zst_ap, if_neg (by omega), zst_ap, if_neg (by omega), zst_ap, if_neg (by omega)]; exact ih.2.1
      · rw [zRgY_out (by omega), zst_ap, if_neg (by omega), zst_ap, if_neg (by omega), zst_ap, if_neg (by omega), zst_ap, if_neg (by omega)]; exact ih.2.2.1
      · rw [zRgY_out (by omega), zst_ap, if_neg (by omega), zst_ap, if_neg (by omega), zst_ap, if_neg (by omega), zst_ap, if_neg (by omega)]; exact ih.2.2.2.1
      · rw [k53 _ 4 j (by omega) hj, zst_ap, if_neg (by omega), zst_ap, if_neg (by omega), zst_ap, if_neg (by omega), zst_ap, if_neg (by omega)]; exact ih.2.2.2.2 j hj
    · rw [if_neg c]; exact ih
def jmOK (M : Nat → Nat → Int32) (n : Nat) (wk : Nat → Nat) : Prop := ∀ t, t < n → M 49 t = nI 0 ∨ (M 49 t = nI 1 ∧ ∃ pl hd, pl < 64 ∧ hd < wk t ∧ M 52 t = nI pl ∧ M 51 t = nI hd)
def fmOK (M : Nat → Nat → Int32) (n : Nat) : Prop := ∀ t, t < n → ∃ e, e < 64 ∧ M 43 t = nI e
def rmOK (M : Nat → Nat → Int32) (n : Nat) (per wk dl of : Nat → Nat) (k : Nat) (st ln tk : Nat → Nat) (h tm : Nat) : Prop := tmOK M n per wk dl of ∧ smOK M k st ln tk ∧ M 38 4 = nI tm ∧ sp_rd n per h ∧ (∀ u t, sp_at st ln tk k u = some t → t < n) ∧ jmOK M n wk ∧ fmOK M n
theorem jmOK.rel {M : Nat → Nat → Int32} {n tm : Nat} {per wk dl of : Nat → Nat} (hT : tmOK M n per wk dl of) (hJ : jmOK M n wk) (hF : fmOK M n) : jmOK (zReY M of per tm n) n wk := by
  intro t ht
  by_cases c : sp_rel (of t) (per t) tm
  · obtain ⟨a1, a2, a3, a4, _⟩ := zReY_yes (M := M) ht c
    obtain ⟨e, he, hf⟩ := hF t ht
    have q := hT.2.2 t ht
    exact Or.inr ⟨a1, e, 0, he, by omega, a4.trans hf, a3⟩
  · obtain ⟨a1, a2, a3, a4, _⟩ := zReY_no (M := M) (i := n) c
    rw [a1, a3, a4]
    exact hJ t ht
def mdF (n : Nat) (per wk of : Nat → Nat) (own : Nat → Option Nat) (h tm : Nat) (M : Nat → Nat → Int32) : (Nat → Nat → Int32) × Int32 := match own (tm % h) with
  | none => (zst (zReY M of per tm n) 38 4 (nI (tm + 1)), -1)
  | some t => if zReY M of per tm n 49 t = nI 0 then (zst (zReY M of per tm n) 38 4 (nI (tm + 1)), -1)
    else (zSvY (zst (zReY M of per tm n) 38 4 (nI (tm + 1))) t (zReY M of per tm n 52 t).toNatClampNeg (zReY M of per tm n 51 t).toNatClampNeg (wk t), nI (t + 100 * sv_out (lowb 4 (zReY M of per tm n 47 (zReY M of per tm n 52 t).toNatClampNeg)) (zReY M of per tm n 51 t).toNatClampNeg (wk t)))
theorem mdF_none {n : Nat} {per wk of : Nat → Nat} {own : Nat → Option Nat} {h tm : Nat} {M : Nat → Nat → Int32} (ho : own (tm % h) = none) : mdF n per wk of own h tm M = (zst (zReY M of per tm n) 38 4 (nI (tm + 1)), -1) := by
  unfold mdF; rw [ho]
theorem mdF_idle {n : Nat} {per wk of : Nat → Nat} {own : Nat → Option Nat} {h tm t : Nat} {M : Nat → Nat → Int32} (ho : own (tm % h) = some t) (hc : zReY M of per tm n 49 t = nI 0) : mdF n per wk of own h tm M = (zst (zReY M of per tm n) 38 4 (nI (tm + 1)), -1) := by
  unfold mdF; rw [ho]; exact if_pos hc
theorem mdF_busy {n : Nat} {per wk of : Nat → Nat} {own : Nat → Option Nat} {h tm t pl hd : Nat} {M : Nat → Nat → Int32} (ho : own (tm % h) = some t) (hc : zReY M of per tm n 49 t = nI 1) (hp : zReY M of per tm n 52 t = nI pl) (hq : zReY M of per tm n 51 t = nI hd) (hpb : pl < 64) (hqb : hd < 2 ^ 20) :
    mdF n per wk of own h tm M = (zSvY (zst (zReY M of per tm n) 38 4 (nI (tm + 1))) t pl hd (wk t), nI (t + 100 * sv_out (lowb 4 (zReY M of per tm n 47 pl)) hd (wk t))) := by
  unfold mdF
  rw [ho]
  dsimp only
  rw [if_neg (by rw [hc]; decide), hp, hq, nI_clamp (by omega), nI_clamp (by omega)]
