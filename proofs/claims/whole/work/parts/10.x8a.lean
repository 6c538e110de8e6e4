def rsv (kind base age : Int32) : Int32 :=
  if kind = 0 then (let fallen := if age ≤ 24 then base else base - 2 * (age - 24); if fallen < 0 then 0 else fallen)
  else if kind = 1 then (let fallen := base - base * age / 20; if fallen < 0 then 0 else fallen)
  else (if 7 < age / 4 then 0 else base >>> (age / 4 &&& 31))
section T
variable (Γ : cG) (σ : cAS)
theorem CX8_reserve (kind base age : Int32) : Ctr Γ (0, 0, 0, 0) MX8_reserve [.int kind, .int base, .int age] σ (rV (some (.int (rsv kind base age))) σ) := by
  refine Ctr.go rfl (by decide) rfl rfl ?_
  refine WP.iload_n (pc := 0) dX8_reserve_0 rfl ?_
  refine WP.if_ne (pc := 1) (tgt := 33) dX8_reserve_1 (by decide) (fun h => ?_) (fun h => ?_)
  · refine WP.iload_n (pc := 33) dX8_reserve_33 rfl ?_
    refine WP.iconst (pc := 34) (v := 1) dX8_reserve_34 (by decide) ?_
    refine WP.icmp_ne (pc := 35) (tgt := 57) dX8_reserve_35 (by decide) (fun h1 => ?_) (fun h1 => ?_)
    · refine WP.iload_n (pc := 57) dX8_reserve_57 rfl ?_
      refine WP.iconst (pc := 58) (v := 4) dX8_reserve_58 (by decide) ?_
      refine WP.idiv (pc := 59) dX8_reserve_59 (by decide) ?_
      refine WP.istore_n (pc := 60) dX8_reserve_60 (by decide) rfl ?_
      refine WP.iload_n (pc := 61) dX8_reserve_61 rfl ?_
      refine WP.bipush (pc := 62) (v := 7) dX8_reserve_62 (by decide) ?_
      refine WP.icmp_le (pc := 64) (tgt := 71) dX8_reserve_64 (by decide) (fun h2 => ?_) (fun h2 => ?_)
      · refine WP.iload_n (pc := 71) dX8_reserve_71 rfl ?_
        refine WP.iload_n (pc := 72) dX8_reserve_72 rfl ?_
        refine WP.ishr (pc := 73) dX8_reserve_73 ?_
        refine WP.iret (pc := 74) rfl dX8_reserve_74 ?_
        exact ⟨by simp [rsv, h, h1, Int32.not_lt.mpr h2], rfl⟩
      · refine WP.iconst (pc := 67) (v := 0) dX8_reserve_67 (by decide) ?_
        refine WP.goto (pc := 68) (tgt := 74) dX8_reserve_68 (by decide) ?_
        refine WP.iret (pc := 74) rfl dX8_reserve_74 ?_
        exact ⟨by simp [rsv, h, h1, Int32.not_le.mp h2], rfl⟩
    · refine WP.iload_n (pc := 38) dX8_reserve_38 rfl ?_
      refine WP.iload_n (pc := 39) dX8_reserve_39 rfl ?_
      refine WP.iload_n (pc := 40) dX8_reserve_40 rfl ?_
      refine WP.imul (pc := 41) dX8_reserve_41 ?_
      refine WP.bipush (pc := 42) (v := 20) dX8_reserve_42 (by decide) ?_
      refine WP.idiv (pc := 44) dX8_reserve_44 (by decide) ?_
      refine WP.isub (pc := 45) dX8_reserve_45 ?_
      refine WP.istore_n (pc := 46) dX8_reserve_46 (by decide) rfl ?_
      refine WP.iload_n (pc := 47) dX8_reserve_47 rfl ?_
      refine WP.if_ge (pc := 48) (tgt := 55) dX8_reserve_48 (by decide) (fun h2 => ?_) (fun h2 => ?_)
      · refine WP.iload_n (pc := 55) dX8_reserve_55 rfl ?_
        refine WP.iret (pc := 56) rfl dX8_reserve_56 ?_
        exact ⟨by simp [rsv, h1, Int32.not_lt.mpr h2], rfl⟩
      · refine WP.iconst (pc := 51) (v := 0) dX8_reserve_51 (by decide) ?_
        refine WP.goto (pc := 52) (tgt := 56) dX8_reserve_52 (by decide) ?_
        refine WP.iret (pc := 56) rfl dX8_reserve_56 ?_
        exact ⟨by simp [rsv, h1, Int32.not_le.mp h2], rfl⟩
  · subst h
    refine WP.iload_n (pc := 4) dX8_reserve_4 rfl ?_
    refine WP.bipush (pc := 5) (v := 24) dX8_reserve_5 (by decide) ?_
    refine WP.icmp_gt (pc := 7) (tgt := 14) dX8_reserve_7 (by decide) (fun h1 => ?_) (fun h1 => ?_)
    · refine WP.iload_n (pc := 14) dX8_reserve_14 rfl ?_
      refine WP.iconst (pc := 15) (v := 2) dX8_reserve_15 (by decide) ?_
      refine WP.iload_n (pc := 16) dX8_reserve_16 rfl ?_
      refine WP.bipush (pc := 17) (v := 24) dX8_reserve_17 (by decide) ?_
      refine WP.isub (pc := 19) dX8_reserve_19 ?_
      refine WP.imul (pc := 20) dX8_reserve_20 ?_
      refine WP.isub (pc := 21) dX8_reserve_21 ?_
      refine WP.istore_n (pc := 22) dX8_reserve_22 (by decide) rfl ?_
      refine WP.iload_n (pc := 23) dX8_reserve_23 rfl ?_
      refine WP.if_ge (pc := 24) (tgt := 31) dX8_reserve_24 (by decide) (fun h2 => ?_) (fun h2 => ?_)
      · refine WP.iload_n (pc := 31) dX8_reserve_31 rfl ?_
        refine WP.iret (pc := 32) rfl dX8_reserve_32 ?_
        exact ⟨by simp [rsv, Int32.not_le.mpr h1, Int32.not_lt.mpr h2], rfl⟩
      · refine WP.iconst (pc := 27) (v := 0) dX8_reserve_27 (by decide) ?_
        refine WP.goto (pc := 28) (tgt := 32) dX8_reserve_28 (by decide) ?_
        refine WP.iret (pc := 32) rfl dX8_reserve_32 ?_
        exact ⟨by simp [rsv, Int32.not_le.mpr h1, Int32.not_le.mp h2], rfl⟩
    · refine WP.iload_n (pc := 10) dX8_reserve_10 rfl ?_
      refine WP.goto (pc := 11) (tgt := 22) dX8_reserve_11 (by decide) ?_
      refine WP.istore_n (pc := 22) dX8_reserve_22 (by decide) rfl ?_
      refine WP.iload_n (pc := 23) dX8_reserve_23 rfl ?_
      refine WP.if_ge (pc := 24) (tgt := 31) dX8_reserve_24 (by decide) (fun h2 => ?_) (fun h2 => ?_)
      · refine WP.iload_n (pc := 31) dX8_reserve_31 rfl ?_
        refine WP.iret (pc := 32) rfl dX8_reserve_32 ?_
        exact ⟨by simp [rsv, Int32.not_lt.mp h1, Int32.not_lt.mpr h2], rfl⟩
      · refine WP.iconst (pc := 27) (v := 0) dX8_reserve_27 (by decide) ?_
        refine WP.goto (pc := 28) (tgt := 32) dX8_reserve_28 (by decide) ?_
        refine WP.iret (pc := 32) rfl dX8_reserve_32 ?_
        exact ⟨by simp [rsv, Int32.not_lt.mp h1, Int32.not_le.mp h2], rfl⟩
end T
