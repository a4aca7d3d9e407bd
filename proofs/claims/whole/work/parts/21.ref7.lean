def sgX6_thrown_0_34db8 : List Instr := [.aload_n 0]
theorem sgX6_thrown_0_34db8d : am_dec cX6_thrown 0 sgX6_thrown_0_34db8 = true := by decide +kernel
theorem dX6_thrown_1 : decode cX6_thrown 1 = .ok (.getfield 104, 3) := by decide +kernel
theorem dX6_thrown_4 : decode cX6_thrown 4 = .ok (.ireturn, 1) := by decide +kernel
def sgX6_mails_0_9cf18 : List Instr := [.aload_n 0, .iconst 0]
theorem sgX6_mails_0_9cf18d : am_dec cX6_mails 0 sgX6_mails_0_9cf18 = true := by decide +kernel
theorem dX6_mails_2 : decode cX6_mails 2 = .ok (.putfield 104, 3) := by decide +kernel
def sgX6_mails_5_34db8 : List Instr := [.aload_n 0]
theorem sgX6_mails_5_34db8d : am_dec cX6_mails 5 sgX6_mails_5_34db8 = true := by decide +kernel
theorem dX6_mails_6 : decode cX6_mails 6 = .ok (.getfield 115, 3) := by decide +kernel
theorem dX6_mails_9 : decode cX6_mails 9 = .ok (.ireturn, 1) := by decide +kernel
set_option maxRecDepth 100000 in
set_option maxHeartbeats 4000000 in
theorem c_r_thrown {G : am_S} {T S : am_T} {o : Nat → Int64}  : am_D G yX6_thrown (.code yX6_thrown cX6_thrown 1 (some .int) :: am_G) { frames := 0, cells := 0, slots := 0, locals := 0 } (hp T S o) [.ref 465] (hp T S o) (some (.int (S 0 0))) := by
  refine am_of (by decide +kernel) (Nat.le_of_ble_eq_true rfl) ?_
  intro C hse hret hname hF hO
  subst hse
  refine am_go hF sgX6_thrown_0_34db8 1 [(0, .ref 465)] [.ref 465] sgX6_thrown_0_34db8d rfl ?_
  refine sv_get hF 0 (by decide) rfl lf_RX6_104 (.int (S 0 0)) rfl dX6_thrown_1 ?_
  exact am_iret hF hO hret rfl dX6_thrown_4 ⟨rfl, rfl⟩
set_option maxRecDepth 100000 in
set_option maxHeartbeats 4000000 in
theorem c_r_mails {G : am_S} {T S : am_T} {o : Nat → Int64} {m : Nat} (hm : S 17 0 = nI m) (hm80 : m ≤ 80) : am_D G yX6_mails (.code yX6_mails cX6_mails 1 (some .int) :: am_G) { frames := 0, cells := 0, slots := 0, locals := 0 } (hp T S o) [.ref 465] (hp T (st1 S 0 0 0) o) (some (.int (nI m))) := by
  refine am_of (by decide +kernel) (Nat.le_of_ble_eq_true rfl) ?_
  intro C hse hret hname hF hO
  subst hse
  refine am_go hF sgX6_mails_0_9cf18 2 [(0, .ref 465)] [.int 0, .ref 465] sgX6_mails_0_9cf18d rfl ?_
  refine sv_put hF 0 (by decide) rfl rfl rfl lf_RX6_104 dX6_mails_2 ?_
  refine am_go hF sgX6_mails_5_34db8 6 [(0, .ref 465)] [.ref 465] sgX6_mails_5_34db8d rfl ?_
  refine sv_get hF 17 (by decide) rfl lf_RX6_115 (.int (S 17 0)) rfl dX6_mails_6 ?_
  refine am_top (nI m) hm ?_
  exact am_iret hF hO hret rfl dX6_mails_9 ⟨rfl, rfl⟩
