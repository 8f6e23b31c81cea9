/-- the low k bits -/
def lowb (k : Nat) (x : Int32) : Nat := x.toBitVec.toNat % 2 ^ k
theorem lowb_lt (k : Nat) (x : Int32) : lowb k x < 2 ^ k := Nat.mod_lt _ (Nat.two_pow_pos k)
theorem lowb_2 (x : Int32) : x &&& nI 3 = nI (lowb 2 x) := pk_and x 2 (by decide +kernel)
theorem lowb_4 (x : Int32) : x &&& nI 15 = nI (lowb 4 x) := pk_and x 4 (by decide +kernel)
theorem lowb_6 (x : Int32) : x &&& nI 63 = nI (lowb 6 x) := pk_and x 6 (by decide +kernel)
theorem lowb_5 (x : Int32) : x &&& nI 31 = nI (lowb 5 x) := pk_and x 5 (by decide +kernel)
theorem lowb_nI {m : Nat} (h : m < 2 ^ 32) (k : Nat) : lowb k (nI m) = m % 2 ^ k := by
  unfold lowb
  rw [pk_tn h]
def mc_out (o : Nat) : Nat := if o = 0 then 1 else if o ≤ 10 then 0 else 2
/-- what an instruction does: kp, jp: where the place is; kr, ix: the registers; kw: the shared words -/
def zStp (o a b : Nat) (n : Int32) (M : Nat → Nat → Int32) (kp jp kr : Nat) (ix : Nat → Nat) (kw : Nat) : Nat → Nat → Int32 := match o with
  | 1 => zst M kr (ix a) n
  | 2 => zst M kr (ix a) (M kr (ix a) + M kr (ix b))
  | 3 => zst M kr (ix a) (M kr (ix a) - M kr (ix b))
  | 4 => zst M kr (ix a) (M kr (ix a) * M kr (ix b))
  | 5 => zst M kr (ix a) (M kw (lowb 4 (M kr (ix b))))
  | 6 => zst M kw (lowb 4 (M kr (ix b))) (M kr (ix a))
  | 7 => if M kr (ix a) = 0 then zst M kp jp (nI (lowb 6 n)) else M
  | 8 => if M kr (ix a) < 0 then zst M kp jp (nI (lowb 6 n)) else M
  | 9 => zst M kp jp (nI (lowb 6 n))
  | 10 => zst M kr (ix a) (M kr (ix a) + n)
  | _ => M

set_option maxHeartbeats 4000000 in
set_option maxRecDepth 100000 in
/-- placeOf -/
theorem c_Mc_placeOf (l : Launch) (D : va_G) (ca : Nat → ClassId) (ad : Nat → Nat) (M : Nat → Nat → Int32) (x : Int32)  : xw_Mi l y_Mc_placeOf (.code y_Mc_placeOf b_Mc_placeOf 1 (some .int) :: zG) { frames := 0, cells := 0, slots := 0, locals := 0 } D zCl (zT ca) [.int x] (zW ca ad M) (fun _ => True) 0 0 (zW ca ad) (fun r M' => M' = M ∧ r = nI (lowb 6 x)) := by
  intro sz
  refine xw_met (cc := b_Mc_placeOf) (maxL := 1) (ret := (some .int)) (by decide) rfl (Nat.le_of_ble_eq_true rfl) (fun p e s m args below meth c hr hlk hnm hsz hKs C => ?_)
  refine xw_lvE (lv' := [(0, .int x)]) rfl ?_
  refine xw_iload_n C 0 d_Mc_placeOf_0 rfl rfl (pc' := 1) rfl ?_
  refine xw_bipush C (v := nI 63) d_Mc_placeOf_1 (by decide) (pc' := 3) rfl ?_
  refine xw_iand C d_Mc_placeOf_3 (pc' := 4) rfl ?_
  refine xw_topi (y := nI (lowb 6 x)) (lowb_6 _) ?_
  refine xw_iret C hr hlk (F := zW ca ad) M rfl ?_ d_Mc_placeOf_4
  exact ⟨rfl, rfl⟩

set_option maxHeartbeats 4000000 in
set_option maxRecDepth 100000 in
/-- jumpIf -/
theorem c_Mc_jumpIf (l : Launch) (D : va_G) (ca : Nat → ClassId) (ad : Nat → Nat) (M : Nat → Nat → Int32) (t j : Nat) (n : Int32) (ht : t < 6) (hj : j ≤ 1) : xw_Mv l y_Mc_jumpIf (.code y_Mc_jumpIf b_Mc_jumpIf 3 none :: zG) { frames := 1, cells := 0, slots := 0, locals := 20 } D zCl (zT ca) [.int (nI j), .int n, .ref (ad (20 + t))] (zW ca ad M) (fun _ => True) 0 0 (zW ca ad) (fun M' => M' = if j = 0 then M else zst M (20 + t) 0 (nI (lowb 6 n))) := by
  intro sz
  refine xw_met (cc := b_Mc_jumpIf) (maxL := 3) (ret := none) (by decide) rfl (Nat.le_of_ble_eq_true rfl) (fun p e s m args below meth c hr hlk hnm hsz hKs C => ?_)
  refine xw_lvE (lv' := [(0, .int (nI j)), (1, .int n), (2, .ref (ad (20 + t)))]) rfl ?_
  refine xw_iload_n C 0 d_Mc_jumpIf_0 rfl rfl (pc' := 1) rfl ?_
  refine xw_if_eq C (tgt := 12) d_Mc_jumpIf_1 (by decide) (pc' := 4) rfl (fun h1 => ?_) (fun h1 => ?_)
  ·
    replace h1 : j = 0 := (xp_eq0 (by omega)).mp h1
    refine xw_vret C hr hlk (F := zW ca ad) M rfl ?_ d_Mc_jumpIf_12
    rw [if_pos h1]
  ·
    replace h1 : ¬ (j = 0) := fun hneg => h1 ((xp_eq0 (by omega)).mpr hneg)
    refine xw_aload_n C 2 d_Mc_jumpIf_4 rfl rfl (pc' := 5) rfl ?_
    refine xw_iload_n C 1 d_Mc_jumpIf_5 rfl rfl (pc' := 6) rfl ?_
    refine xw_callSi C (c_Mc_placeOf l D ca ad M n) ⟨zg_B C 1 k_531 k_30 k_533 q_Mc_placeOf ⟨by decide, by decide⟩, C.2.2.2.2.1 _ k_532⟩ (fun _ _ _ _ h => h) (fun _ _ _ _ _ _ _ => trivial) rfl rfl (Nat.le_of_ble_eq_true rfl) d_Mc_jumpIf_6 ⟨by decide, by decide⟩ (pc' := 9) rfl (fun r1 M2 hp3 => ?_)
    obtain ⟨hme, hre⟩ := hp3
    rw [hme, hre]
    clear hme hre
    obtain ⟨M4, hM4⟩ : ∃ zq, zq = zst M (20 + t) 0 (nI (lowb 6 n)) := ⟨_, rfl⟩
    refine xw_put C u_Jb t_Jb t_Jb_ok n_Jb (20 + t) (zr_Jb (t := t) (by omega)) rfl 1 (by decide) k_69 rfl rfl (t_Jb_ok 1 (by decide)) rfl rfl (Nat.le_of_ble_eq_true rfl) (ws' := zW ca ad M4) (by rw [hM4]; exact zs_Jb_0 (t := t) (by omega) _) d_Mc_jumpIf_9 (pc' := 12) rfl ?_
    refine xw_vret C hr hlk (F := zW ca ad) M4 rfl ?_ d_Mc_jumpIf_12
    rw [if_neg h1]; exact hM4

set_option maxHeartbeats 4000000 in
set_option maxRecDepth 100000 in
/-- step(job) -/
theorem c_Mc_step (l : Launch) (D : va_G) (ca : Nat → ClassId) (ad : Nat → Nat) (M : Nat → Nat → Int32) (t pl : Nat) (ht : t < 6) (hpl : M (20 + t) 0 = nI pl) (hpb : pl < 64) : xw_Mi l y_Mc_step (.code y_Mc_step b_Mc_step 7 (some .int) :: zG) { frames := 2, cells := 0, slots := 0, locals := 42 } D zCl (zT ca) [.ref (ad 10), .ref (ad (20 + t))] (zW ca ad M) (fun _ => True) 0 0 (zW ca ad) (fun r M' => M' = zStp (lowb 4 (M 11 pl)) (lowb 2 ((M 11 pl) >>> (nI 4 &&& 31))) (lowb 2 ((M 11 pl) >>> (nI 6 &&& 31))) ((M 11 pl) >>> (nI 8 &&& 31)) (zst M (20 + t) 0 (nI ((pl + 1) % 64))) (20 + t) 0 (26 + t) (fun a => a) 12 ∧ r = nI (mc_out (lowb 4 (M 11 pl)))) := by
  intro sz
  refine xw_met (cc := b_Mc_step) (maxL := 7) (ret := (some .int)) (by decide) rfl (Nat.le_of_ble_eq_true rfl) (fun p e s m args below meth c hr hlk hnm hsz hKs C => ?_)
  refine xw_lvE (lv' := [(0, .ref (ad 10)), (1, .ref (ad (20 + t)))]) rfl ?_
  refine xw_aload_n C 0 d_Mc_step_0 rfl rfl (pc' := 1) rfl ?_
  refine xw_get C u_Mc 10 zr_10 rfl 0 (by decide) k_173 rfl rfl d_Mc_step_1 (pc' := 4) rfl ?_
  refine xw_aload_n C 1 d_Mc_step_4 rfl rfl (pc' := 5) rfl ?_
  refine xw_get C u_Jb (20 + t) (zr_Jb (t := t) (by omega)) rfl 1 (by decide) k_69 rfl rfl d_Mc_step_5 (pc' := 8) rfl ?_
  refine xw_topi (y := nI pl) hpl ?_
  refine xw_iald C 11 0 zr_11 rfl pl rfl (by omega) (by decide) d_Mc_step_8 (pc' := 9) rfl ?_
  obtain ⟨v, h_v⟩ : ∃ z, z = M 11 pl := ⟨_, rfl⟩
  refine xw_topi (y := v) h_v.symm ?_
  refine xw_istore_n C d_Mc_step_9 rfl (by decide) rfl (pc' := 10) rfl ?_
  refine xw_aload_n C 2 d_Mc_step_10 rfl rfl (pc' := 11) rfl ?_
  refine xw_aload_n C 2 d_Mc_step_11 rfl rfl (pc' := 12) rfl ?_
  refine xw_get C u_Jb (20 + t) (zr_Jb (t := t) (by omega)) rfl 1 (by decide) k_69 rfl rfl d_Mc_step_12 (pc' := 15) rfl ?_
  refine xw_topi (y := nI pl) hpl ?_
  refine xw_iconst C (v := nI 1) d_Mc_step_15 (by decide) (pc' := 16) rfl ?_
  refine xw_iadd C d_Mc_step_16 (pc' := 17) rfl ?_
  refine xw_topi (y := nI (pl + 1)) (nI_add _ _) ?_
  refine xw_callSi C (c_Mc_placeOf l D ca ad M (nI (pl + 1))) ⟨zg_B C 1 k_531 k_30 k_533 q_Mc_placeOf ⟨by decide, by decide⟩, C.2.2.2.2.1 _ k_532⟩ (fun _ _ _ _ h => h) (fun _ _ _ _ _ _ _ => trivial) rfl rfl (Nat.le_of_ble_eq_true rfl) d_Mc_step_17 ⟨by decide, by decide⟩ (pc' := 20) rfl (fun r1 M2 hp3 => ?_)
  obtain ⟨hme, hre⟩ := hp3
  rw [hme, hre]
  clear hme hre
  refine xw_topi (y := nI ((pl + 1) % 64)) (by rw [lowb_nI (by omega)]) ?_
  obtain ⟨M4, hM4⟩ : ∃ zq, zq = zst M (20 + t) 0 (nI ((pl + 1) % 64)) := ⟨_, rfl⟩
  refine xw_put C u_Jb t_Jb t_Jb_ok n_Jb (20 + t) (zr_Jb (t := t) (by omega)) rfl 1 (by decide) k_69 rfl rfl (t_Jb_ok 1 (by decide)) rfl rfl (Nat.le_of_ble_eq_true rfl) (ws' := zW ca ad M4) (by rw [hM4]; exact zs_Jb_0 (t := t) (by omega) _) d_Mc_step_20 (pc' := 23) rfl ?_
  refine xw_iload_n C 0 d_Mc_step_23 rfl rfl (pc' := 24) rfl ?_
  refine xw_iconst C (v := nI 4) d_Mc_step_24 (by decide) (pc' := 25) rfl ?_
  refine xw_ishr C d_Mc_step_25 (pc' := 26) rfl ?_
  refine xw_iconst C (v := nI 3) d_Mc_step_26 (by decide) (pc' := 27) rfl ?_
  obtain ⟨a, ha⟩ : ∃ zq, zq = lowb 2 (v >>> (nI 4 &&& 31)) := ⟨_, rfl⟩
  have hal : a < 4 := by rw [ha]; exact lowb_lt 2 _
  refine xw_iand C d_Mc_step_27 (pc' := 28) rfl ?_
  refine xw_topi (y := nI a) (by rw [ha]; exact lowb_2 _) ?_
  refine xw_istore_n C d_Mc_step_28 rfl (by decide) rfl (pc' := 29) rfl ?_
  refine xw_iload_n C 1 d_Mc_step_29 rfl rfl (pc' := 30) rfl ?_
  refine xw_bipush C (v := nI 6) d_Mc_step_30 (by decide) (pc' := 32) rfl ?_
  refine xw_ishr C d_Mc_step_32 (pc' := 33) rfl ?_
  refine xw_iconst C (v := nI 3) d_Mc_step_33 (by decide) (pc' := 34) rfl ?_
  obtain ⟨b, hb⟩ : ∃ zq, zq = lowb 2 (v >>> (nI 6 &&& 31)) := ⟨_, rfl⟩
  have hbl : b < 4 := by rw [hb]; exact lowb_lt 2 _
  refine xw_iand C d_Mc_step_34 (pc' := 35) rfl ?_
  refine xw_topi (y := nI b) (by rw [hb]; exact lowb_2 _) ?_
  refine xw_istore C d_Mc_step_35 (by decide) rfl (pc' := 37) rfl ?_
  refine xw_iload_n C 2 d_Mc_step_37 rfl rfl (pc' := 38) rfl ?_
  refine xw_bipush C (v := nI 8) d_Mc_step_38 (by decide) (pc' := 40) rfl ?_
  refine xw_ishr C d_Mc_step_40 (pc' := 41) rfl ?_
  obtain ⟨nn, h_nn⟩ : ∃ z, z = v >>> ((nI 8) &&& 31) := ⟨_, rfl⟩
  refine xw_topi (y := nn) h_nn.symm ?_
  refine xw_istore C d_Mc_step_41 (by decide) rfl (pc' := 43) rfl ?_
  refine xw_aload_n C 5 d_Mc_step_43 rfl rfl (pc' := 44) rfl ?_
  refine xw_get C u_Jb (20 + t) (zr_Jb (t := t) (by omega)) rfl 0 (by decide) k_68 rfl rfl d_Mc_step_44 (pc' := 47) rfl ?_
  refine xw_astore C d_Mc_step_47 (by decide) rfl (pc' := 49) rfl ?_
  refine xw_iload_n C 4 d_Mc_step_49 rfl rfl (pc' := 50) rfl ?_
  refine xw_bipush C (v := nI 15) d_Mc_step_50 (by decide) (pc' := 52) rfl ?_
  obtain ⟨o, ho⟩ : ∃ zq, zq = lowb 4 v := ⟨_, rfl⟩
  have hol : o < 16 := by rw [ho]; exact lowb_lt 4 _
  refine xw_iand C d_Mc_step_52 (pc' := 53) rfl ?_
  refine xw_topi (y := nI o) (by rw [ho]; exact lowb_4 _) ?_
  rcases (show o = 0 ∨ o = 1 ∨ o = 2 ∨ o = 3 ∨ o = 4 ∨ o = 5 ∨ o = 6 ∨ o = 7 ∨ o = 8 ∨ o = 9 ∨ o = 10 ∨ o = 11 ∨ o = 12 ∨ o = 13 ∨ o = 14 ∨ o = 15 by omega) with rfl | rfl | rfl | rfl | rfl | rfl | rfl | rfl | rfl | rfl | rfl | rfl | rfl | rfl | rfl | rfl
  ·
    refine xw_tableIn C (off := 59) (tgt := 112) d_Mc_step_53 (by decide) (by decide) (by decide) (by decide) ?_
    refine xw_iconst C (v := nI 1) d_Mc_step_112 (by decide) (pc' := 113) rfl ?_
    refine xw_iret C hr hlk (F := zW ca ad) M4 rfl ?_ d_Mc_step_113
    refine ⟨?_, ?_⟩
    · rw [← h_v, ← ho, ← ha, ← hb, ← h_nn, hM4]
      rfl
    · rw [← h_v, ← ho]; rfl
  ·
    refine xw_tableIn C (off := 61) (tgt := 114) d_Mc_step_53 (by decide) (by decide) (by decide) (by decide) ?_
    refine xw_aload C 0 d_Mc_step_114 rfl (pc' := 116) rfl ?_
    refine xw_iload_n C 3 d_Mc_step_116 rfl rfl (pc' := 117) rfl ?_
    refine xw_iload C 1 d_Mc_step_117 rfl (pc' := 119) rfl ?_
    obtain ⟨M5, hM5⟩ : ∃ zq, zq = zst M4 (26 + t) a nn := ⟨_, rfl⟩
    refine xw_iast C (26 + t) 0 (zr_rg (t := t) (by omega)) rfl a rfl (by omega) (by decide) (ws' := zW ca ad M5) (by rw [hM5]; exact zs_rg (t := t) (by omega) _ _) d_Mc_step_119 (pc' := 120) rfl ?_
    refine xw_goto C (tgt := 274) d_Mc_step_120 (by decide) ?_
    refine xw_iconst C (v := nI 0) d_Mc_step_274 (by decide) (pc' := 275) rfl ?_
    refine xw_iret C hr hlk (F := zW ca ad) M5 rfl ?_ d_Mc_step_275
    refine ⟨?_, ?_⟩
    · rw [← h_v, ← ho, ← ha, ← hb, ← h_nn, hM5, hM4]
      rfl
    · rw [← h_v, ← ho]; rfl
  ·
    refine xw_tableIn C (off := 70) (tgt := 123) d_Mc_step_53 (by decide) (by decide) (by decide) (by decide) ?_
    refine xw_aload C 0 d_Mc_step_123 rfl (pc' := 125) rfl ?_
    refine xw_iload_n C 3 d_Mc_step_125 rfl rfl (pc' := 126) rfl ?_
    refine xw_dup2_11 C d_Mc_step_126 rfl rfl (pc' := 127) rfl ?_
    refine xw_iald C (26 + t) 0 (zr_rg (t := t) (by omega)) rfl a rfl (by omega) (by decide) d_Mc_step_127 (pc' := 128) rfl ?_
    refine xw_aload C 0 d_Mc_step_128 rfl (pc' := 130) rfl ?_
    refine xw_iload C 2 d_Mc_step_130 rfl (pc' := 132) rfl ?_
    refine xw_iald C (26 + t) 0 (zr_rg (t := t) (by omega)) rfl b rfl (by omega) (by decide) d_Mc_step_132 (pc' := 133) rfl ?_
    refine xw_iadd C d_Mc_step_133 (pc' := 134) rfl ?_
    obtain ⟨M6, hM6⟩ : ∃ zq, zq = zst M4 (26 + t) a ((M4 (26 + t) a) + (M4 (26 + t) b)) := ⟨_, rfl⟩
    refine xw_iast C (26 + t) 0 (zr_rg (t := t) (by omega)) rfl a rfl (by omega) (by decide) (ws' := zW ca ad M6) (by rw [hM6]; exact zs_rg (t := t) (by omega) _ _) d_Mc_step_134 (pc' := 135) rfl ?_
    refine xw_goto C (tgt := 274) d_Mc_step_135 (by decide) ?_
    refine xw_iconst C (v := nI 0) d_Mc_step_274 (by decide) (pc' := 275) rfl ?_
    refine xw_iret C hr hlk (F := zW ca ad) M6 rfl ?_ d_Mc_step_275
    refine ⟨?_, ?_⟩
    · rw [← h_v, ← ho, ← ha, ← hb, ← h_nn, hM6, hM4]
      rfl
    · rw [← h_v, ← ho]; rfl
  ·
    refine xw_tableIn C (off := 85) (tgt := 138) d_Mc_step_53 (by decide) (by decide) (by decide) (by decide) ?_
    refine xw_aload C 0 d_Mc_step_138 rfl (pc' := 140) rfl ?_
    refine xw_iload_n C 3 d_Mc_step_140 rfl rfl (pc' := 141) rfl ?_
    refine xw_dup2_11 C d_Mc_step_141 rfl rfl (pc' := 142) rfl ?_
    refine xw_iald C (26 + t) 0 (zr_rg (t := t) (by omega)) rfl a rfl (by omega) (by decide) d_Mc_step_142 (pc' := 143) rfl ?_
    refine xw_aload C 0 d_Mc_step_143 rfl (pc' := 145) rfl ?_
    refine xw_iload C 2 d_Mc_step_145 rfl (pc' := 147) rfl ?_
    refine xw_iald C (26 + t) 0 (zr_rg (t := t) (by omega)) rfl b rfl (by omega) (by decide) d_Mc_step_147 (pc' := 148) rfl ?_
    refine xw_isub C d_Mc_step_148 (pc' := 149) rfl ?_
    obtain ⟨M7, hM7⟩ : ∃ zq, zq = zst M4 (26 + t) a ((M4 (26 + t) a) - (M4 (26 + t) b)) := ⟨_, rfl⟩
    refine xw_iast C (26 + t) 0 (zr_rg (t := t) (by omega)) rfl a rfl (by omega) (by decide) (ws' := zW ca ad M7) (by rw [hM7]; exact zs_rg (t := t) (by omega) _ _) d_Mc_step_149 (pc' := 150) rfl ?_
    refine xw_goto C (tgt := 274) d_Mc_step_150 (by decide) ?_
    refine xw_iconst C (v := nI 0) d_Mc_step_274 (by decide) (pc' := 275) rfl ?_
    refine xw_iret C hr hlk (F := zW ca ad) M7 rfl ?_ d_Mc_step_275
    refine ⟨?_, ?_⟩
    · rw [← h_v, ← ho, ← ha, ← hb, ← h_nn, hM7, hM4]
      rfl
    · rw [← h_v, ← ho]; rfl
  ·
    refine xw_tableIn C (off := 100) (tgt := 153) d_Mc_step_53 (by decide) (by decide) (by decide) (by decide) ?_
    refine xw_aload C 0 d_Mc_step_153 rfl (pc' := 155) rfl ?_
    refine xw_iload_n C 3 d_Mc_step_155 rfl rfl (pc' := 156) rfl ?_
    refine xw_dup2_11 C d_Mc_step_156 rfl rfl (pc' := 157) rfl ?_
    refine xw_iald C (26 + t) 0 (zr_rg (t := t) (by omega)) rfl a rfl (by omega) (by decide) d_Mc_step_157 (pc' := 158) rfl ?_
    refine xw_aload C 0 d_Mc_step_158 rfl (pc' := 160) rfl ?_
    refine xw_iload C 2 d_Mc_step_160 rfl (pc' := 162) rfl ?_
    refine xw_iald C (26 + t) 0 (zr_rg (t := t) (by omega)) rfl b rfl (by omega) (by decide) d_Mc_step_162 (pc' := 163) rfl ?_
    refine xw_imul C d_Mc_step_163 (pc' := 164) rfl ?_
    obtain ⟨M8, hM8⟩ : ∃ zq, zq = zst M4 (26 + t) a ((M4 (26 + t) a) * (M4 (26 + t) b)) := ⟨_, rfl⟩
    refine xw_iast C (26 + t) 0 (zr_rg (t := t) (by omega)) rfl a rfl (by omega) (by decide) (ws' := zW ca ad M8) (by rw [hM8]; exact zs_rg (t := t) (by omega) _ _) d_Mc_step_164 (pc' := 165) rfl ?_
    refine xw_goto C (tgt := 274) d_Mc_step_165 (by decide) ?_
    refine xw_iconst C (v := nI 0) d_Mc_step_274 (by decide) (pc' := 275) rfl ?_
    refine xw_iret C hr hlk (F := zW ca ad) M8 rfl ?_ d_Mc_step_275
    refine ⟨?_, ?_⟩
    · rw [← h_v, ← ho, ← ha, ← hb, ← h_nn, hM8, hM4]
      rfl
    · rw [← h_v, ← ho]; rfl
  ·
    refine xw_tableIn C (off := 115) (tgt := 168) d_Mc_step_53 (by decide) (by decide) (by decide) (by decide) ?_
    refine xw_aload C 0 d_Mc_step_168 rfl (pc' := 170) rfl ?_
    refine xw_iload_n C 3 d_Mc_step_170 rfl rfl (pc' := 171) rfl ?_
    refine xw_aload_n C 5 d_Mc_step_171 rfl rfl (pc' := 172) rfl ?_
    refine xw_get C u_Mc 10 zr_10 rfl 1 (by decide) k_175 rfl rfl d_Mc_step_172 (pc' := 175) rfl ?_
    refine xw_aload C 0 d_Mc_step_175 rfl (pc' := 177) rfl ?_
    refine xw_iload C 2 d_Mc_step_177 rfl (pc' := 179) rfl ?_
    refine xw_iald C (26 + t) 0 (zr_rg (t := t) (by omega)) rfl b rfl (by omega) (by decide) d_Mc_step_179 (pc' := 180) rfl ?_
    refine xw_bipush C (v := nI 15) d_Mc_step_180 (by decide) (pc' := 182) rfl ?_
    refine xw_iand C d_Mc_step_182 (pc' := 183) rfl ?_
    refine xw_topi (y := nI (lowb 4 (M4 (26 + t) b))) (lowb_4 _) ?_
    refine xw_iald C 12 0 zr_12 rfl (lowb 4 (M4 (26 + t) b)) rfl (lowb_lt 4 _) (by decide) d_Mc_step_183 (pc' := 184) rfl ?_
    obtain ⟨M9, hM9⟩ : ∃ zq, zq = zst M4 (26 + t) a (M4 12 (lowb 4 (M4 (26 + t) b))) := ⟨_, rfl⟩
    refine xw_iast C (26 + t) 0 (zr_rg (t := t) (by omega)) rfl a rfl (by omega) (by decide) (ws' := zW ca ad M9) (by rw [hM9]; exact zs_rg (t := t) (by omega) _ _) d_Mc_step_184 (pc' := 185) rfl ?_
    refine xw_goto C (tgt := 274) d_Mc_step_185 (by decide) ?_
    refine xw_iconst C (v := nI 0) d_Mc_step_274 (by decide) (pc' := 275) rfl ?_
    refine xw_iret C hr hlk (F := zW ca ad) M9 rfl ?_ d_Mc_step_275
    refine ⟨?_, ?_⟩
    · rw [← h_v, ← ho, ← ha, ← hb, ← h_nn, hM9, hM4]
      rfl
    · rw [← h_v, ← ho]; rfl
  ·
    refine xw_tableIn C (off := 135) (tgt := 188) d_Mc_step_53 (by decide) (by decide) (by decide) (by decide) ?_
    refine xw_aload_n C 5 d_Mc_step_188 rfl rfl (pc' := 189) rfl ?_
    refine xw_get C u_Mc 10 zr_10 rfl 1 (by decide) k_175 rfl rfl d_Mc_step_189 (pc' := 192) rfl ?_
    refine xw_aload C 0 d_Mc_step_192 rfl (pc' := 194) rfl ?_
    refine xw_iload C 2 d_Mc_step_194 rfl (pc' := 196) rfl ?_
    refine xw_iald C (26 + t) 0 (zr_rg (t := t) (by omega)) rfl b rfl (by omega) (by decide) d_Mc_step_196 (pc' := 197) rfl ?_
    refine xw_bipush C (v := nI 15) d_Mc_step_197 (by decide) (pc' := 199) rfl ?_
    refine xw_iand C d_Mc_step_199 (pc' := 200) rfl ?_
    refine xw_topi (y := nI (lowb 4 (M4 (26 + t) b))) (lowb_4 _) ?_
    refine xw_aload C 0 d_Mc_step_200 rfl (pc' := 202) rfl ?_
    refine xw_iload_n C 3 d_Mc_step_202 rfl rfl (pc' := 203) rfl ?_
    refine xw_iald C (26 + t) 0 (zr_rg (t := t) (by omega)) rfl a rfl (by omega) (by decide) d_Mc_step_203 (pc' := 204) rfl ?_
    obtain ⟨M10, hM10⟩ : ∃ zq, zq = zst M4 12 (lowb 4 (M4 (26 + t) b)) (M4 (26 + t) a) := ⟨_, rfl⟩
    refine xw_iast C 12 0 zr_12 rfl (lowb 4 (M4 (26 + t) b)) rfl (lowb_lt 4 _) (by decide) (ws' := zW ca ad M10) (by rw [hM10]; exact zs_12 _ _) d_Mc_step_204 (pc' := 205) rfl ?_
    refine xw_goto C (tgt := 274) d_Mc_step_205 (by decide) ?_
    refine xw_iconst C (v := nI 0) d_Mc_step_274 (by decide) (pc' := 275) rfl ?_
    refine xw_iret C hr hlk (F := zW ca ad) M10 rfl ?_ d_Mc_step_275
    refine ⟨?_, ?_⟩
    · rw [← h_v, ← ho, ← ha, ← hb, ← h_nn, hM10, hM4]
      rfl
    · rw [← h_v, ← ho]; rfl
  ·
    refine xw_tableIn C (off := 155) (tgt := 208) d_Mc_step_53 (by decide) (by decide) (by decide) (by decide) ?_
    refine xw_aload C 0 d_Mc_step_208 rfl (pc' := 210) rfl ?_
    refine xw_iload_n C 3 d_Mc_step_210 rfl rfl (pc' := 211) rfl ?_
    refine xw_iald C (26 + t) 0 (zr_rg (t := t) (by omega)) rfl a rfl (by omega) (by decide) d_Mc_step_211 (pc' := 212) rfl ?_
    refine xw_if_ne C (tgt := 219) d_Mc_step_212 (by decide) (pc' := 215) rfl (fun h212 => ?_) (fun h212 => ?_)
    ·
      refine xw_iconst C (v := nI 0) d_Mc_step_219 (by decide) (pc' := 220) rfl ?_
      refine xw_iload C 1 d_Mc_step_220 rfl (pc' := 222) rfl ?_
      refine xw_aload_n C 6 d_Mc_step_222 rfl rfl (pc' := 223) rfl ?_
      refine xw_callSv C (c_Mc_jumpIf l D ca ad M4 t 0 nn (by omega) (by omega)) ⟨zg_B C 3 k_534 k_30 k_536 q_Mc_jumpIf ⟨by decide, by decide⟩, C.2.2.2.2.1 _ k_535⟩ (fun _ _ _ _ h => h) (fun _ _ _ _ _ _ _ => trivial) rfl rfl (Nat.le_of_ble_eq_true rfl) d_Mc_step_223 ⟨by decide, by decide⟩ (pc' := 226) rfl (fun M12 hp13 => ?_)
      have hM12 := hp13
      rw [if_pos rfl] at hM12
      refine xw_goto C (tgt := 274) d_Mc_step_226 (by decide) ?_
      refine xw_iconst C (v := nI 0) d_Mc_step_274 (by decide) (pc' := 275) rfl ?_
      refine xw_iret C hr hlk (F := zW ca ad) M12 rfl ?_ d_Mc_step_275
      refine ⟨?_, ?_⟩
      · rw [← h_v, ← ho, ← ha, ← hb, ← h_nn, hM12, hM4]
        rw [hM4] at h212; exact (if_neg h212).symm
      · rw [← h_v, ← ho]; rfl
    ·
      refine xw_iconst C (v := nI 1) d_Mc_step_215 (by decide) (pc' := 216) rfl ?_
      refine xw_goto C (tgt := 220) d_Mc_step_216 (by decide) ?_
      refine xw_iload C 1 d_Mc_step_220 rfl (pc' := 222) rfl ?_
      refine xw_aload_n C 6 d_Mc_step_222 rfl rfl (pc' := 223) rfl ?_
      refine xw_callSv C (c_Mc_jumpIf l D ca ad M4 t 1 nn (by omega) (by omega)) ⟨zg_B C 3 k_534 k_30 k_536 q_Mc_jumpIf ⟨by decide, by decide⟩, C.2.2.2.2.1 _ k_535⟩ (fun _ _ _ _ h => h) (fun _ _ _ _ _ _ _ => trivial) rfl rfl (Nat.le_of_ble_eq_true rfl) d_Mc_step_223 ⟨by decide, by decide⟩ (pc' := 226) rfl (fun M15 hp16 => ?_)
      have hM15 := hp16
      rw [if_neg (by decide)] at hM15
      refine xw_goto C (tgt := 274) d_Mc_step_226 (by decide) ?_
      refine xw_iconst C (v := nI 0) d_Mc_step_274 (by decide) (pc' := 275) rfl ?_
      refine xw_iret C hr hlk (F := zW ca ad) M15 rfl ?_ d_Mc_step_275
      refine ⟨?_, ?_⟩
      · rw [← h_v, ← ho, ← ha, ← hb, ← h_nn, hM15, hM4]
        rw [hM4] at h212; exact (if_pos h212).symm
      · rw [← h_v, ← ho]; rfl
  ·
    refine xw_tableIn C (off := 176) (tgt := 229) d_Mc_step_53 (by decide) (by decide) (by decide) (by decide) ?_
    refine xw_aload C 0 d_Mc_step_229 rfl (pc' := 231) rfl ?_
    refine xw_iload_n C 3 d_Mc_step_231 rfl rfl (pc' := 232) rfl ?_
    refine xw_iald C (26 + t) 0 (zr_rg (t := t) (by omega)) rfl a rfl (by omega) (by decide) d_Mc_step_232 (pc' := 233) rfl ?_
    refine xw_if_ge C (tgt := 240) d_Mc_step_233 (by decide) (pc' := 236) rfl (fun h233 => ?_) (fun h233 => ?_)
    ·
      refine xw_iconst C (v := nI 0) d_Mc_step_240 (by decide) (pc' := 241) rfl ?_
      refine xw_iload C 1 d_Mc_step_241 rfl (pc' := 243) rfl ?_
      refine xw_aload_n C 6 d_Mc_step_243 rfl rfl (pc' := 244) rfl ?_
      refine xw_callSv C (c_Mc_jumpIf l D ca ad M4 t 0 nn (by omega) (by omega)) ⟨zg_B C 3 k_534 k_30 k_536 q_Mc_jumpIf ⟨by decide, by decide⟩, C.2.2.2.2.1 _ k_535⟩ (fun _ _ _ _ h => h) (fun _ _ _ _ _ _ _ => trivial) rfl rfl (Nat.le_of_ble_eq_true rfl) d_Mc_step_244 ⟨by decide, by decide⟩ (pc' := 247) rfl (fun M18 hp19 => ?_)
      have hM18 := hp19
      rw [if_pos rfl] at hM18
      refine xw_goto C (tgt := 274) d_Mc_step_247 (by decide) ?_
      refine xw_iconst C (v := nI 0) d_Mc_step_274 (by decide) (pc' := 275) rfl ?_
      refine xw_iret C hr hlk (F := zW ca ad) M18 rfl ?_ d_Mc_step_275
      refine ⟨?_, ?_⟩
      · rw [← h_v, ← ho, ← ha, ← hb, ← h_nn, hM18, hM4]
        rw [hM4] at h233; exact (if_neg (Int32.not_lt.mpr h233)).symm
      · rw [← h_v, ← ho]; rfl
    ·
      refine xw_iconst C (v := nI 1) d_Mc_step_236 (by decide) (pc' := 237) rfl ?_
      refine xw_goto C (tgt := 241) d_Mc_step_237 (by decide) ?_
      refine xw_iload C 1 d_Mc_step_241 rfl (pc' := 243) rfl ?_
      refine xw_aload_n C 6 d_Mc_step_243 rfl rfl (pc' := 244) rfl ?_
      refine xw_callSv C (c_Mc_jumpIf l D ca ad M4 t 1 nn (by omega) (by omega)) ⟨zg_B C 3 k_534 k_30 k_536 q_Mc_jumpIf ⟨by decide, by decide⟩, C.2.2.2.2.1 _ k_535⟩ (fun _ _ _ _ h => h) (fun _ _ _ _ _ _ _ => trivial) rfl rfl (Nat.le_of_ble_eq_true rfl) d_Mc_step_244 ⟨by decide, by decide⟩ (pc' := 247) rfl (fun M21 hp22 => ?_)
      have hM21 := hp22
      rw [if_neg (by decide)] at hM21
      refine xw_goto C (tgt := 274) d_Mc_step_247 (by decide) ?_
      refine xw_iconst C (v := nI 0) d_Mc_step_274 (by decide) (pc' := 275) rfl ?_
      refine xw_iret C hr hlk (F := zW ca ad) M21 rfl ?_ d_Mc_step_275
      refine ⟨?_, ?_⟩
      · rw [← h_v, ← ho, ← ha, ← hb, ← h_nn, hM21, hM4]
        rw [hM4] at h233; exact (if_pos (Int32.not_le.mp h233)).symm
      · rw [← h_v, ← ho]; rfl
  ·
    refine xw_tableIn C (off := 197) (tgt := 250) d_Mc_step_53 (by decide) (by decide) (by decide) (by decide) ?_
    refine xw_iconst C (v := nI 1) d_Mc_step_250 (by decide) (pc' := 251) rfl ?_
    refine xw_iload C 1 d_Mc_step_251 rfl (pc' := 253) rfl ?_
    refine xw_aload_n C 6 d_Mc_step_253 rfl rfl (pc' := 254) rfl ?_
    refine xw_callSv C (c_Mc_jumpIf l D ca ad M4 t 1 nn (by omega) (by omega)) ⟨zg_B C 3 k_534 k_30 k_536 q_Mc_jumpIf ⟨by decide, by decide⟩, C.2.2.2.2.1 _ k_535⟩ (fun _ _ _ _ h => h) (fun _ _ _ _ _ _ _ => trivial) rfl rfl (Nat.le_of_ble_eq_true rfl) d_Mc_step_254 ⟨by decide, by decide⟩ (pc' := 257) rfl (fun M24 hp25 => ?_)
    have hM24 := hp25
    rw [if_neg (by decide)] at hM24
    refine xw_goto C (tgt := 274) d_Mc_step_257 (by decide) ?_
    refine xw_iconst C (v := nI 0) d_Mc_step_274 (by decide) (pc' := 275) rfl ?_
    refine xw_iret C hr hlk (F := zW ca ad) M24 rfl ?_ d_Mc_step_275
    refine ⟨?_, ?_⟩
    · rw [← h_v, ← ho, ← ha, ← hb, ← h_nn, hM24, hM4]
      rfl
    · rw [← h_v, ← ho]; rfl
  ·
    refine xw_tableIn C (off := 207) (tgt := 260) d_Mc_step_53 (by decide) (by decide) (by decide) (by decide) ?_
    refine xw_aload C 0 d_Mc_step_260 rfl (pc' := 262) rfl ?_
    refine xw_iload_n C 3 d_Mc_step_262 rfl rfl (pc' := 263) rfl ?_
    refine xw_dup2_11 C d_Mc_step_263 rfl rfl (pc' := 264) rfl ?_
    refine xw_iald C (26 + t) 0 (zr_rg (t := t) (by omega)) rfl a rfl (by omega) (by decide) d_Mc_step_264 (pc' := 265) rfl ?_
    refine xw_iload C 1 d_Mc_step_265 rfl (pc' := 267) rfl ?_
    refine xw_iadd C d_Mc_step_267 (pc' := 268) rfl ?_
    obtain ⟨M26, hM26⟩ : ∃ zq, zq = zst M4 (26 + t) a ((M4 (26 + t) a) + nn) := ⟨_, rfl⟩
    refine xw_iast C (26 + t) 0 (zr_rg (t := t) (by omega)) rfl a rfl (by omega) (by decide) (ws' := zW ca ad M26) (by rw [hM26]; exact zs_rg (t := t) (by omega) _ _) d_Mc_step_268 (pc' := 269) rfl ?_
    refine xw_goto C (tgt := 274) d_Mc_step_269 (by decide) ?_
    refine xw_iconst C (v := nI 0) d_Mc_step_274 (by decide) (pc' := 275) rfl ?_
    refine xw_iret C hr hlk (F := zW ca ad) M26 rfl ?_ d_Mc_step_275
    refine ⟨?_, ?_⟩
    · rw [← h_v, ← ho, ← ha, ← hb, ← h_nn, hM26, hM4]
      rfl
    · rw [← h_v, ← ho]; rfl
  ·
    refine xw_tableOut C (tgt := 272) d_Mc_step_53 (by decide) (by decide) ?_
    refine xw_iconst C (v := nI 2) d_Mc_step_272 (by decide) (pc' := 273) rfl ?_
    refine xw_iret C hr hlk (F := zW ca ad) M4 rfl ?_ d_Mc_step_273
    refine ⟨?_, ?_⟩
    · rw [← h_v, ← ho, ← ha, ← hb, ← h_nn, hM4]
      rfl
    · rw [← h_v, ← ho]; rfl
  ·
    refine xw_tableOut C (tgt := 272) d_Mc_step_53 (by decide) (by decide) ?_
    refine xw_iconst C (v := nI 2) d_Mc_step_272 (by decide) (pc' := 273) rfl ?_
    refine xw_iret C hr hlk (F := zW ca ad) M4 rfl ?_ d_Mc_step_273
    refine ⟨?_, ?_⟩
    · rw [← h_v, ← ho, ← ha, ← hb, ← h_nn, hM4]
      rfl
    · rw [← h_v, ← ho]; rfl
  ·
    refine xw_tableOut C (tgt := 272) d_Mc_step_53 (by decide) (by decide) ?_
    refine xw_iconst C (v := nI 2) d_Mc_step_272 (by decide) (pc' := 273) rfl ?_
    refine xw_iret C hr hlk (F := zW ca ad) M4 rfl ?_ d_Mc_step_273
    refine ⟨?_, ?_⟩
    · rw [← h_v, ← ho, ← ha, ← hb, ← h_nn, hM4]
      rfl
    · rw [← h_v, ← ho]; rfl
  ·
    refine xw_tableOut C (tgt := 272) d_Mc_step_53 (by decide) (by decide) ?_
    refine xw_iconst C (v := nI 2) d_Mc_step_272 (by decide) (pc' := 273) rfl ?_
    refine xw_iret C hr hlk (F := zW ca ad) M4 rfl ?_ d_Mc_step_273
    refine ⟨?_, ?_⟩
    · rw [← h_v, ← ho, ← ha, ← hb, ← h_nn, hM4]
      rfl
    · rw [← h_v, ← ho]; rfl
  ·
    refine xw_tableOut C (tgt := 272) d_Mc_step_53 (by decide) (by decide) ?_
    refine xw_iconst C (v := nI 2) d_Mc_step_272 (by decide) (pc' := 273) rfl ?_
    refine xw_iret C hr hlk (F := zW ca ad) M4 rfl ?_ d_Mc_step_273
    refine ⟨?_, ?_⟩
    · rw [← h_v, ← ho, ← ha, ← hb, ← h_nn, hM4]
      rfl
    · rw [← h_v, ← ho]; rfl
