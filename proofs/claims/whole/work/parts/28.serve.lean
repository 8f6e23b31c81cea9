def zForN (M : Nat → Nat → Int32) : Nat → Nat → Nat → Int32
  | 0 => M
  | i + 1 => zFor (zForN M i) i
theorem zFor_out {M : Nat → Nat → Int32} {t a b : Nat} (h1 : a ≠ 20 + t) (h2 : a ≠ 32 + t) : zFor M t a b = M a b := by
  unfold zFor
  rw [zfl_ap, if_neg (fun h => h2 h.1), zst_ap, if_neg (fun h => h1 h.1)]
theorem zForN_out {M : Nat → Nat → Int32} {i a b : Nat} (hi : i ≤ 6) (h : a < 20 ∨ (26 ≤ a ∧ a < 32) ∨ 38 ≤ a) : zForN M i a b = M a b := by
  induction i with
  | zero => rfl
  | succ i ih =>
    show zFor (zForN M i) i a b = M a b
    rw [zFor_out (by omega) (by omega)]
    exact ih (by omega)
def zSta (M : Nat → Nat → Int32) (n h : Nat) : Nat → Nat → Int32 := zForN (zfl (zst (zst (zst M 0 0 (nI 1)) 0 1 (nI h)) 0 2 (nI 0)) 12 16 (nI 0)) n
theorem mc_out_le (o : Nat) : mc_out o ≤ 2 := by
  unfold mc_out
  split
  · omega
  · split <;> omega
/-- how a served tick ends its job: 0: it goes on -/
def sv_out (o hd w : Nat) : Nat := if mc_out o = 0 ∧ w ≤ hd + 1 then 3 else mc_out o
theorem sv_out_le (o hd w : Nat) : sv_out o hd w ≤ 3 := by
  have := mc_out_le o
  unfold sv_out
  split <;> omega
def zIns (M : Nat → Nat → Int32) (t pl : Nat) : Nat → Nat → Int32 := zStp (lowb 4 (M 11 pl)) (lowb 2 ((M 11 pl) >>> (nI 4 &&& 31))) (lowb 2 ((M 11 pl) >>> (nI 6 &&& 31))) ((M 11 pl) >>> (nI 8 &&& 31)) (zst M (20 + t) 0 (nI ((pl + 1) % 64))) (20 + t) 0 (26 + t) (fun a => a) 12
theorem zStp_out {o x y : Nat} {n : Int32} {M : Nat → Nat → Int32} {kp jp kr : Nat} {ix : Nat → Nat} {kw a b : Nat} (h1 : ¬ (a = kp ∧ b = jp)) (h2 : a ≠ kr) (h3 : a ≠ kw) : zStp o x y n M kp jp kr ix kw a b = M a b := by
  unfold zStp
  split
  all_goals first
    | rfl
    | (rw [zst_ap, if_neg (fun h => h2 h.1)]; done)
    | (rw [zst_ap, if_neg (fun h => h3 h.1)]; done)
    | (rw [zst_ap, if_neg h1]; done)
    | (split
       · rw [zst_ap, if_neg h1]
       · rfl)
theorem zIns_out {M : Nat → Nat → Int32} {t pl a b : Nat} (h1 : ¬ (a = 20 + t ∧ b = 0)) (h2 : a ≠ 26 + t) (h3 : a ≠ 12) : zIns M t pl a b = M a b := by
  unfold zIns
  rw [zStp_out h1 h2 h3, zst_ap, if_neg h1]
def zEnd (M : Nat → Nat → Int32) (t o : Nat) (tm : Int32) : Nat → Nat → Int32 := if o = 1 then zEn2 (zEn1 M t o) t tm else zEn1 M t o
def zSv (M : Nat → Nat → Int32) (t pl hd w : Nat) : Nat → Nat → Int32 := if sv_out (lowb 4 (M 11 pl)) hd w = 0 then zst (zIns M t pl) (20 + t) 1 (nI (hd + 1)) else zEnd (zst (zIns M t pl) (20 + t) 1 (nI (hd + 1))) t (sv_out (lowb 4 (M 11 pl)) hd w) (M 0 2 + nI 1)

set_option maxHeartbeats 4000000 in
set_option maxRecDepth 100000 in
/-- startRun(h) -/
theorem c_Ex_startRun (l : Launch) (D : va_G) (ca : Nat → ClassId) (ad : Nat → Nat) (M : Nat → Nat → Int32) (n h : Nat) (hn : n ≤ 6) (hz : M 1 0 = nI n) : xw_Mv l y_Ex_startRun (.code y_Ex_startRun b_Ex_startRun 3 none :: zG) { frames := 2, cells := 0, slots := 0, locals := 46 } D zCl (zT ca) [.ref (ad 0), .int (nI h)] (zW ca ad M) (fun _ => True) 0 0 (zW ca ad) (fun M' => M' = zSta M n h) := by
  intro sz
  refine xw_met (cc := b_Ex_startRun) (maxL := 3) (ret := none) (by decide) rfl (Nat.le_of_ble_eq_true rfl) (fun p e s m args below meth c hr hlk hnm hsz hKs C => ?_)
  have loop1 : ∀ (d : Nat) (i : Nat) (M1 : Nat → Nat → Int32), n - i = d → i ≤ n → M1 = zForN (zfl (zst (zst (zst M 0 0 (nI 1)) 0 1 (nI h)) 0 2 (nI 0)) 12 16 (nI 0)) i → XW p l e { frames := 2, cells := 0, slots := 0, locals := 46 } s m args below meth c D zCl (va_A (zW ca ad M) sz) s.heap 3 (zW ca ad M1) 0 0 (MQ below (va_Qv (fun M' => M' = zSta M n h) (xw_B D zCl (zT ca) (va_A (zW ca ad M) sz) (zW ca ad)) (va_A (zW ca ad M) sz)) args s 0 0 (va_A (zW ca ad M) sz)) 28 [(0, .ref (ad 0)), (1, .int (nI h)), (2, .int (nI i))] [] := by
    intro d
    induction d using Nat.strongRecOn with
    | _ d ih =>
      intro i M1 hd hi hM1
      have hz1 : M1 1 0 = nI n := by rw [hM1, zForN_out (by omega) (by omega), zfl_ap, if_neg (by omega), zst_ap, if_neg (by omega), zst_ap, if_neg (by omega), zst_ap, if_neg (by omega)]; exact hz
      refine xw_iload_n C 2 d_Ex_startRun_28 rfl rfl (pc' := 29) rfl ?_
      refine xw_aload_n C 0 d_Ex_startRun_29 rfl rfl (pc' := 30) rfl ?_
      refine xw_get C u_Ex 0 zr_0 rfl 0 (by decide) k_182 rfl rfl d_Ex_startRun_30 (pc' := 33) rfl ?_
      refine xw_get C u_Tl 1 zr_1 rfl 1 (by decide) k_128 rfl rfl d_Ex_startRun_33 (pc' := 36) rfl ?_
      refine xw_topi (y := nI n) hz1 ?_
      refine xw_icmp_ge C (tgt := 57) d_Ex_startRun_36 (by decide) (pc' := 39) rfl (fun h36 => ?_) (fun h36 => ?_)
      ·
        replace h36 : n ≤ i := (nI_leI (by omega) (by omega)).mp h36
        refine xw_vret C hr hlk (F := zW ca ad) M1 rfl ?_ d_Ex_startRun_57
        rw [hM1, show i = n by omega]; rfl
      ·
        replace h36 : ¬ (n ≤ i) := fun hneg => h36 ((nI_leI (by omega) (by omega)).mpr hneg)
        refine xw_aload_n C 0 d_Ex_startRun_39 rfl rfl (pc' := 40) rfl ?_
        refine xw_get C u_Ex 0 zr_0 rfl 0 (by decide) k_182 rfl rfl d_Ex_startRun_40 (pc' := 43) rfl ?_
        refine xw_get C u_Tl 1 zr_1 rfl 0 (by decide) k_125 rfl rfl d_Ex_startRun_43 (pc' := 46) rfl ?_
        refine xw_iload_n C 2 d_Ex_startRun_46 rfl rfl (pc' := 47) rfl ?_
        refine xw_aald C 2 1 zr_2 rfl i rfl (by omega) (by decide) rfl d_Ex_startRun_47 (pc' := 48) rfl ?_
        refine xw_callVv C (c_Tk_forgetRun l D ca ad M1 i (by omega)) ⟨zg_B C 0 k_486 k_26 k_362 q_Tk_forgetRun ⟨by decide, by decide⟩, C.2.2.2.2.1 _ k_360, C.2.2.2.2.1 _ k_361⟩ (14 + i) (zr_Tk (t := i) (by omega)) rfl rfl (fun _ _ _ _ h => h) (fun _ _ _ _ _ _ _ => trivial) rfl rfl (Nat.le_of_ble_eq_true rfl) d_Ex_startRun_48 ⟨by decide, by decide⟩ (pc' := 51) rfl (fun M52 hp53 => ?_)
        have hM52 := hp53
        refine xw_iinc C 2 (v := nI (i + 1)) d_Ex_startRun_51 rfl (xp_inc1 _) (by decide) rfl (pc' := 54) rfl ?_
        refine xw_goto C (tgt := 28) d_Ex_startRun_54 (by decide) ?_
        refine xw_lv [1, 2, 0] rfl ?_
        exact ih (n - (i + 1)) (by omega) (i + 1) M52 rfl (by omega) (by rw [hM52, hM1]; rfl)
  refine xw_lvE (lv' := [(0, .ref (ad 0)), (1, .int (nI h))]) rfl ?_
  refine xw_aload_n C 0 d_Ex_startRun_0 rfl rfl (pc' := 1) rfl ?_
  refine xw_iconst C (v := nI 1) d_Ex_startRun_1 (by decide) (pc' := 2) rfl ?_
  obtain ⟨M1, hM1⟩ : ∃ zq, zq = zst M 0 0 (nI 1) := ⟨_, rfl⟩
  refine xw_put C u_Ex t_Ex t_Ex_ok n_Ex 0 zr_0 rfl 5 (by decide) k_187 rfl rfl (t_Ex_ok 5 (by decide)) xp_n1 rfl (Nat.le_of_ble_eq_true rfl) (ws' := zW ca ad M1) (by rw [hM1]; exact zs_0_0 _) d_Ex_startRun_2 (pc' := 5) rfl ?_
  refine xw_aload_n C 0 d_Ex_startRun_5 rfl rfl (pc' := 6) rfl ?_
  refine xw_iload_n C 1 d_Ex_startRun_6 rfl rfl (pc' := 7) rfl ?_
  obtain ⟨M2, hM2⟩ : ∃ zq, zq = zst M1 0 1 (nI h) := ⟨_, rfl⟩
  refine xw_put C u_Ex t_Ex t_Ex_ok n_Ex 0 zr_0 rfl 6 (by decide) k_188 rfl rfl (t_Ex_ok 6 (by decide)) rfl rfl (Nat.le_of_ble_eq_true rfl) (ws' := zW ca ad M2) (by rw [hM2]; exact zs_0_1 _) d_Ex_startRun_7 (pc' := 10) rfl ?_
  refine xw_aload_n C 0 d_Ex_startRun_10 rfl rfl (pc' := 11) rfl ?_
  refine xw_iconst C (v := nI 0) d_Ex_startRun_11 (by decide) (pc' := 12) rfl ?_
  obtain ⟨M3, hM3⟩ : ∃ zq, zq = zst M2 0 2 (nI 0) := ⟨_, rfl⟩
  refine xw_put C u_Ex t_Ex t_Ex_ok n_Ex 0 zr_0 rfl 7 (by decide) k_189 rfl rfl (t_Ex_ok 7 (by decide)) rfl rfl (Nat.le_of_ble_eq_true rfl) (ws' := zW ca ad M3) (by rw [hM3]; exact zs_0_2 _) d_Ex_startRun_12 (pc' := 15) rfl ?_
  refine xw_aload_n C 0 d_Ex_startRun_15 rfl rfl (pc' := 16) rfl ?_
  refine xw_get C u_Ex 0 zr_0 rfl 3 (by decide) k_185 rfl rfl d_Ex_startRun_16 (pc' := 19) rfl ?_
  refine xw_get C u_Mc 10 zr_10 rfl 1 (by decide) k_176 rfl rfl d_Ex_startRun_19 (pc' := 22) rfl ?_
  refine xw_iconst C (v := nI 0) d_Ex_startRun_22 (by decide) (pc' := 23) rfl ?_
  refine xw_callSv C (c_Ar_fill l D ca ad M3 12 16 (nI 0) (by decide) (fun _ => rfl) (by decide)) ⟨zg_B C 2 k_485 k_38 k_365 q_Ar_fill ⟨by decide, by decide⟩, C.2.2.2.2.1 _ k_364⟩ (fun _ _ _ _ h => h) (fun _ _ _ _ _ _ _ => trivial) rfl rfl (Nat.le_of_ble_eq_true rfl) d_Ex_startRun_23 ⟨by decide, by decide⟩ (pc' := 26) rfl (fun M5 hp6 => ?_)
  have hM5 := hp6
  refine xw_iconst C (v := nI 0) d_Ex_startRun_26 (by decide) (pc' := 27) rfl ?_
  refine xw_istore_n C d_Ex_startRun_27 rfl (by decide) rfl (pc' := 28) rfl ?_
  refine xw_lv [1, 2, 0] rfl ?_
  exact loop1 n 0 M5 rfl (by omega) (by rw [hM5, hM3, hM2, hM1]; rfl)

set_option maxHeartbeats 4000000 in
set_option maxRecDepth 100000 in
/-- serve(task) -/
theorem c_Ex_serve (l : Launch) (D : va_G) (ca : Nat → ClassId) (ad : Nat → Nat) (M : Nat → Nat → Int32) (t pl hd w : Nat) (ht : t < 6) (hpl : M (20 + t) 0 = nI pl) (hpb : pl < 64) (hhd : M (20 + t) 1 = nI hd) (hhb : hd < 2 ^ 20) (hw : M (14 + t) 1 = nI w) (hwb : w < 2 ^ 20) : xw_Mi l y_Ex_serve (.code y_Ex_serve b_Ex_serve 4 (some .int) :: zG) { frames := 3, cells := 0, slots := 0, locals := 68 } D zCl (zT ca) [.ref (ad 0), .ref (ad (14 + t))] (zW ca ad M) (fun _ => True) 0 0 (zW ca ad) (fun r M' => M' = zSv M t pl hd w ∧ r = nI (sv_out (lowb 4 (M 11 pl)) hd w)) := by
  intro sz
  refine xw_met (cc := b_Ex_serve) (maxL := 4) (ret := (some .int)) (by decide) rfl (Nat.le_of_ble_eq_true rfl) (fun p e s m args below meth c hr hlk hnm hsz hKs C => ?_)
  refine xw_lvE (lv' := [(0, .ref (ad 0)), (1, .ref (ad (14 + t)))]) rfl ?_
  refine xw_aload_n C 1 d_Ex_serve_0 rfl rfl (pc' := 1) rfl ?_
  refine xw_get C u_Tk (14 + t) (zr_Tk (t := t) (by omega)) rfl 5 (by decide) k_105 rfl rfl d_Ex_serve_1 (pc' := 4) rfl ?_
  refine xw_astore_n C d_Ex_serve_4 rfl (by decide) rfl (pc' := 5) rfl ?_
  refine xw_aload_n C 1 d_Ex_serve_5 rfl rfl (pc' := 6) rfl ?_
  refine xw_get C u_Ex 0 zr_0 rfl 3 (by decide) k_185 rfl rfl d_Ex_serve_6 (pc' := 9) rfl ?_
  refine xw_aload_n C 0 d_Ex_serve_9 rfl rfl (pc' := 10) rfl ?_
  refine xw_callVi C (c_Mc_step l D ca ad M t pl (by omega) hpl (by omega)) ⟨zg_B C 1 k_527 k_30 k_530 q_Mc_step ⟨by decide, by decide⟩, C.2.2.2.2.1 _ k_528, C.2.2.2.2.1 _ k_529⟩ 10 zr_10 rfl rfl (fun _ _ _ _ h => h) (fun _ _ _ _ _ _ _ => trivial) rfl rfl (Nat.le_of_ble_eq_true rfl) d_Ex_serve_10 ⟨by decide, by decide⟩ (pc' := 13) rfl (fun r1 M2 hp3 => ?_)
  obtain ⟨hM2, hre⟩ := hp3
  rw [hre]
  clear hre
  replace hM2 : M2 = zIns M t pl := hM2
  obtain ⟨o, ho⟩ : ∃ zq, zq = lowb 4 (M 11 pl) := ⟨_, rfl⟩
  rw [← ho]
  have hmo := mc_out_le o
  have hk2 : ∀ a b, ¬ (a = 20 + t ∧ b = 0) → a ≠ 26 + t → a ≠ 12 → M2 a b = M a b := fun a b h1 h2 h3 => by rw [hM2]; exact zIns_out h1 h2 h3
  refine xw_istore_n C d_Ex_serve_13 rfl (by decide) rfl (pc' := 14) rfl ?_
  refine xw_aload_n C 1 d_Ex_serve_14 rfl rfl (pc' := 15) rfl ?_
  refine xw_dup C d_Ex_serve_15 rfl (pc' := 16) rfl ?_
  refine xw_get C u_Jb (20 + t) (zr_Jb (t := t) (by omega)) rfl 2 (by decide) k_72 rfl rfl d_Ex_serve_16 (pc' := 19) rfl ?_
  refine xw_topi (y := nI hd) ((hk2 _ _ (by omega) (by omega) (by omega)).trans hhd) ?_
  refine xw_iconst C (v := nI 1) d_Ex_serve_19 (by decide) (pc' := 20) rfl ?_
  refine xw_iadd C d_Ex_serve_20 (pc' := 21) rfl ?_
  refine xw_topi (y := nI (hd + 1)) (nI_add _ _) ?_
  obtain ⟨M4, hM4⟩ : ∃ zq, zq = zst M2 (20 + t) 1 (nI (hd + 1)) := ⟨_, rfl⟩
  refine xw_put C u_Jb t_Jb t_Jb_ok n_Jb (20 + t) (zr_Jb (t := t) (by omega)) rfl 2 (by decide) k_72 rfl rfl (t_Jb_ok 2 (by decide)) rfl rfl (Nat.le_of_ble_eq_true rfl) (ws' := zW ca ad M4) (by rw [hM4]; exact zs_Jb_1 (t := t) (by omega) _) d_Ex_serve_21 (pc' := 24) rfl ?_
  have hk3 : ∀ a b, ¬ (a = 20 + t ∧ b ≤ 1) → a ≠ 26 + t → a ≠ 12 → M4 a b = M a b := fun a b h1 h2 h3 => by rw [hM4, zst_ap, if_neg (by omega)]; exact hk2 a b (by omega) h2 h3
  have hh3 : M4 (20 + t) 1 = nI (hd + 1) := by rw [hM4, zst_ap, if_pos ⟨rfl, rfl⟩]
  have hw3 : M4 (14 + t) 1 = nI w := (hk3 _ _ (by omega) (by omega) (by omega)).trans hw
  have hn3 : M4 0 2 = M 0 2 := hk3 _ _ (by omega) (by omega) (by omega)
  refine xw_iload_n C 0 d_Ex_serve_24 rfl rfl (pc' := 25) rfl ?_
  refine xw_if_ne C (tgt := 41) d_Ex_serve_25 (by decide) (pc' := 28) rfl (fun h25 => ?_) (fun h25 => ?_)
  ·
    replace h25 : ¬ ((mc_out o) = 0) := fun hneg => h25 ((xp_eq0 (by omega)).mpr hneg)
    refine xw_iload_n C 0 d_Ex_serve_41 rfl rfl (pc' := 42) rfl ?_
    refine xw_if_eq C (tgt := 56) d_Ex_serve_42 (by decide) (pc' := 45) rfl (fun h42 => ?_) (fun h42 => ?_)
    ·
      replace h42 : (mc_out o) = 0 := (xp_eq0 (by omega)).mp h42
      refine xw_iload_n C 0 d_Ex_serve_56 rfl rfl (pc' := 57) rfl ?_
      refine xw_iret C hr hlk (F := zW ca ad) M4 rfl ?_ d_Ex_serve_57
      have hsv : sv_out o hd w = mc_out o := if_neg (by omega)
      refine ⟨?_, by rw [hsv]⟩
      unfold zSv
      rw [← ho, if_pos (by omega), hM4, hM2]
    ·
      replace h42 : ¬ ((mc_out o) = 0) := fun hneg => h42 ((xp_eq0 (by omega)).mpr hneg)
      refine xw_aload_n C 3 d_Ex_serve_45 rfl rfl (pc' := 46) rfl ?_
      refine xw_iload_n C 0 d_Ex_serve_46 rfl rfl (pc' := 47) rfl ?_
      refine xw_aload_n C 2 d_Ex_serve_47 rfl rfl (pc' := 48) rfl ?_
      refine xw_get C u_Ex 0 zr_0 rfl 7 (by decide) k_189 rfl rfl d_Ex_serve_48 (pc' := 51) rfl ?_
      refine xw_iconst C (v := nI 1) d_Ex_serve_51 (by decide) (pc' := 52) rfl ?_
      refine xw_iadd C d_Ex_serve_52 (pc' := 53) rfl ?_
      refine xw_callVv C (c_Tk_endJob l D ca ad M4 t (mc_out o) ((M4 0 2) + (nI 1)) (by omega) (by omega) (by omega)) ⟨zg_B C 2 k_537 k_26 k_540 q_Tk_endJob ⟨by decide, by decide⟩, C.2.2.2.2.1 _ k_538, C.2.2.2.2.1 _ k_539⟩ (14 + t) (zr_Tk (t := t) (by omega)) rfl rfl (fun _ _ _ _ h => h) (fun _ _ _ _ _ _ _ => trivial) rfl rfl (Nat.le_of_ble_eq_true rfl) d_Ex_serve_53 ⟨by decide, by decide⟩ (pc' := 56) rfl (fun M6 hp7 => ?_)
      have hM6 := hp7
      refine xw_iload_n C 0 d_Ex_serve_56 rfl rfl (pc' := 57) rfl ?_
      refine xw_iret C hr hlk (F := zW ca ad) M6 rfl ?_ d_Ex_serve_57
      have hsv : sv_out o hd w = mc_out o := if_neg (by omega)
      refine ⟨?_, by rw [hsv]⟩
      unfold zSv zEnd
      rw [← ho, if_neg (by omega), hsv, hM6, hn3, hM4, hM2]
  ·
    replace h25 : (mc_out o) = 0 := (xp_eq0 (by omega)).mp h25
    refine xw_aload_n C 1 d_Ex_serve_28 rfl rfl (pc' := 29) rfl ?_
    refine xw_get C u_Jb (20 + t) (zr_Jb (t := t) (by omega)) rfl 2 (by decide) k_72 rfl rfl d_Ex_serve_29 (pc' := 32) rfl ?_
    
    refine xw_topi (y := nI (hd + 1)) hh3 ?_
    refine xw_aload_n C 3 d_Ex_serve_32 rfl rfl (pc' := 33) rfl ?_
    refine xw_get C u_Tk (14 + t) (zr_Tk (t := t) (by omega)) rfl 1 (by decide) k_95 rfl rfl d_Ex_serve_33 (pc' := 36) rfl ?_
    refine xw_topi (y := nI w) hw3 ?_
    refine xw_icmp_lt C (tgt := 41) d_Ex_serve_36 (by decide) (pc' := 39) rfl (fun h36 => ?_) (fun h36 => ?_)
    ·
      replace h36 : (hd + 1) < w := (nI_ltI (by omega) (by omega)).mp h36
      refine xw_iload_n C 0 d_Ex_serve_41 rfl rfl (pc' := 42) rfl ?_
      refine xw_if_eq C (tgt := 56) d_Ex_serve_42 (by decide) (pc' := 45) rfl (fun h42 => ?_) (fun h42 => ?_)
      ·
        replace h42 : (mc_out o) = 0 := (xp_eq0 (by omega)).mp h42
        refine xw_iload_n C 0 d_Ex_serve_56 rfl rfl (pc' := 57) rfl ?_
        refine xw_iret C hr hlk (F := zW ca ad) M4 rfl ?_ d_Ex_serve_57
        have hsv : sv_out o hd w = mc_out o := if_neg (by omega)
        refine ⟨?_, by rw [hsv]⟩
        unfold zSv
        rw [← ho, if_pos (by omega), hM4, hM2]
      ·
        replace h42 : ¬ ((mc_out o) = 0) := fun hneg => h42 ((xp_eq0 (by omega)).mpr hneg)
        refine xw_aload_n C 3 d_Ex_serve_45 rfl rfl (pc' := 46) rfl ?_
        refine xw_iload_n C 0 d_Ex_serve_46 rfl rfl (pc' := 47) rfl ?_
        refine xw_aload_n C 2 d_Ex_serve_47 rfl rfl (pc' := 48) rfl ?_
        refine xw_get C u_Ex 0 zr_0 rfl 7 (by decide) k_189 rfl rfl d_Ex_serve_48 (pc' := 51) rfl ?_
        refine xw_iconst C (v := nI 1) d_Ex_serve_51 (by decide) (pc' := 52) rfl ?_
        refine xw_iadd C d_Ex_serve_52 (pc' := 53) rfl ?_
        refine xw_callVv C (c_Tk_endJob l D ca ad M4 t (mc_out o) ((M4 0 2) + (nI 1)) (by omega) (by omega) (by omega)) ⟨zg_B C 2 k_537 k_26 k_540 q_Tk_endJob ⟨by decide, by decide⟩, C.2.2.2.2.1 _ k_538, C.2.2.2.2.1 _ k_539⟩ (14 + t) (zr_Tk (t := t) (by omega)) rfl rfl (fun _ _ _ _ h => h) (fun _ _ _ _ _ _ _ => trivial) rfl rfl (Nat.le_of_ble_eq_true rfl) d_Ex_serve_53 ⟨by decide, by decide⟩ (pc' := 56) rfl (fun M9 hp10 => ?_)
        have hM9 := hp10
        refine xw_iload_n C 0 d_Ex_serve_56 rfl rfl (pc' := 57) rfl ?_
        refine xw_iret C hr hlk (F := zW ca ad) M9 rfl ?_ d_Ex_serve_57
        have hsv : sv_out o hd w = mc_out o := if_neg (by omega)
        refine ⟨?_, by rw [hsv]⟩
        unfold zSv zEnd
        rw [← ho, if_neg (by omega), hsv, hM9, hn3, hM4, hM2]
    ·
      replace h36 : ¬ ((hd + 1) < w) := fun hneg => h36 ((nI_ltI (by omega) (by omega)).mpr hneg)
      refine xw_iconst C (v := nI 3) d_Ex_serve_39 (by decide) (pc' := 40) rfl ?_
      refine xw_istore_n C d_Ex_serve_40 rfl (by decide) rfl (pc' := 41) rfl ?_
      refine xw_iload_n C 0 d_Ex_serve_41 rfl rfl (pc' := 42) rfl ?_
      refine xw_if_eq C (tgt := 56) d_Ex_serve_42 (by decide) (pc' := 45) rfl (fun h42 => ?_) (fun h42 => ?_)
      ·
        replace h42 : 3 = 0 := (xp_eq0 (by omega)).mp h42
        omega
      ·
        replace h42 : ¬ (3 = 0) := fun hneg => h42 ((xp_eq0 (by omega)).mpr hneg)
        refine xw_aload_n C 3 d_Ex_serve_45 rfl rfl (pc' := 46) rfl ?_
        refine xw_iload_n C 0 d_Ex_serve_46 rfl rfl (pc' := 47) rfl ?_
        refine xw_aload_n C 2 d_Ex_serve_47 rfl rfl (pc' := 48) rfl ?_
        refine xw_get C u_Ex 0 zr_0 rfl 7 (by decide) k_189 rfl rfl d_Ex_serve_48 (pc' := 51) rfl ?_
        refine xw_iconst C (v := nI 1) d_Ex_serve_51 (by decide) (pc' := 52) rfl ?_
        refine xw_iadd C d_Ex_serve_52 (pc' := 53) rfl ?_
        refine xw_callVv C (c_Tk_endJob l D ca ad M4 t 3 ((M4 0 2) + (nI 1)) (by omega) (by omega) (by omega)) ⟨zg_B C 2 k_537 k_26 k_540 q_Tk_endJob ⟨by decide, by decide⟩, C.2.2.2.2.1 _ k_538, C.2.2.2.2.1 _ k_539⟩ (14 + t) (zr_Tk (t := t) (by omega)) rfl rfl (fun _ _ _ _ h => h) (fun _ _ _ _ _ _ _ => trivial) rfl rfl (Nat.le_of_ble_eq_true rfl) d_Ex_serve_53 ⟨by decide, by decide⟩ (pc' := 56) rfl (fun M12 hp13 => ?_)
        have hM12 := hp13
        refine xw_iload_n C 0 d_Ex_serve_56 rfl rfl (pc' := 57) rfl ?_
        refine xw_iret C hr hlk (F := zW ca ad) M12 rfl ?_ d_Ex_serve_57
        have hsv : sv_out o hd w = 3 := if_pos ⟨h25, by omega⟩
        refine ⟨?_, by rw [hsv]⟩
        unfold zSv zEnd
        rw [← ho, if_neg (by omega), hsv, hM12, hn3, hM4, hM2]
