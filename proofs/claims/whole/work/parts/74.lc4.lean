-- behind: 73.law0 71.dl1 71.dl2 71.dl3 71.dl4 71.dl5 71.dl6 71.dl7 71.dl8
-- what one call of the script does, on both sides
section T
variable (Γ : cG) {nm : String × List (Nat × Nat × Nat × Nat)} {σ : cAS} {x i k T C Z : Nat} {mm : mX}
set_option maxRecDepth 4000 in
theorem law_c32 (hi : i + 6 ≤ (gX Γ).2.1) (hN : (gX Γ).2.1 ≤ 4000) (hb : bd T C Z) (hs : SI σ x mm) (hv : inv T C Z mm) (hk : nxK Γ nm x i k T C Z) : WP Γ (12, 260, 40 * (k + 1), 512 * (k + 1)) (ML_law nm) lwO 1813 (lwL Γ x i none none none none) [] σ := by
  obtain ⟨hx, hm, hd, ho⟩ := id hs
  have hI : inv (T + 1) (C + 18000) (Z + 2880) (q_bidCount mm ((gX Γ).2.2 (i + 1))).2.2 := by
    unfold q_bidCount
    repeat' split
    all_goals exact hv.up
  have hle := qbidCount_le mm ((gX Γ).2.2 (i + 1))
  refine WP.aload_n (pc := 1813) dL_law_1813 rfl ?_
  refine WP.aload_n (pc := 1814) dL_law_1814 rfl ?_
  refine WP.iload (pc := 1815) dL_law_1815 rfl ?_
  refine WP.iconst (pc := 1817) (v := 1) dL_law_1817 (by decide) ?_
  refine WP.iaN (pc := 1818) (a := i) (b := 1) dL_law_1818 ?_
  refine WP.xA (pc := 1819) (i := i + 1) (by omega) (by omega) dL_law_1819 ?_
  refine WP.aload_n (pc := 1820) dL_law_1820 rfl ?_
  refine WP.callSH (pc := 1821) (mc2 := 40 * k) (ms2 := 512 * k) (M' := ML_bidCount) (List.cons_ne_nil _ _) kL_283 (CL_bidCount Γ hx hv.1.1 ((gX Γ).2.2 (i + 1)) ho) rfl ⟨(Nat.le_of_ble_eq_true rfl), (Nat.le_of_ble_eq_true rfl)⟩ (by omega) (by omega) (Nat.le_of_ble_eq_true rfl) rfl dL_law_1821 (fun v τ hw => ?_) (fun E τ hw => nomatch hw.1)
  obtain ⟨h1, h2, h3, h4⟩ := hw
  cases h1
  obtain ⟨hx2, hm2, hd2, ho2⟩ := hs.x h2 h3
  refine WP.istore (pc := 1824) dL_law_1824 (Nat.le_of_ble_eq_true rfl) rfl ?_
  refine WP.self ?_
  refine WP.aload_n (pc := 1826) dL_law_1826 rfl ?_
  refine WP.aload_n (pc := 1827) dL_law_1827 rfl ?_
  refine WP.iload (pc := 1828) dL_law_1828 rfl ?_
  refine WP.iconst (pc := 1830) (v := 1) dL_law_1830 (by decide) ?_
  refine WP.iaN (pc := 1831) (a := i) (b := 1) dL_law_1831 ?_
  refine WP.xA (pc := 1832) (i := i + 1) (by omega) (by omega) dL_law_1832 ?_
  refine WP.cVp (pc := 1833) (mc2 := 40 * k) (ms2 := 512 * k) (ci := 9) kL_285 (CX9_bidCount Γ hm2 hd2 hv.1.1 ((gX Γ).2.2 (i + 1))) (by decide) rfl hm2.t0 rfl ⟨(Nat.le_of_ble_eq_true rfl), (Nat.le_of_ble_eq_true rfl)⟩ (by omega) (by omega) (Nat.le_of_ble_eq_true rfl) rfl dL_law_1833 (fun v I1 ⟨g1, g2, g3, g4⟩ => ?_)
  have h5 := SI.m hx2 hm2 ho2 g3 g4
  generalize q_bidCount mm ((gX Γ).2.2 (i + 1)) = q at *
  refine WP.istore (pc := 1836) dL_law_1836 (Nat.le_of_ble_eq_true rfl) rfl ?_
  refine WP.aload_n (pc := 1838) dL_law_1838 rfl ?_
  refine WP.cV1 (pc := 1839) (mc2 := 40 * k) (ms2 := 512 * k) (ci := 9) kL_175 (CX9_thrown Γ hm2) (by decide) rfl hm2.t0 rfl ⟨(Nat.le_of_ble_eq_true rfl), (Nat.le_of_ble_eq_true rfl)⟩ (by omega) (by omega) (Nat.le_of_ble_eq_true rfl) rfl dL_law_1839 ?_
  rw [g1]
  refine WP.iload (pc := 1842) dL_law_1842 rfl ?_
  refine WP.icmp_eq (pc := 1844) (tgt := 1849) dL_law_1844 (by decide) (fun _ => ?_) (fun c => absurd rfl c)
  refine WP.iload (pc := 1849) dL_law_1849 rfl ?_
  have fin : ∀ L5 L6, WP Γ (12, 260, 40 * k, 512 * k) (ML_law nm) lwO 1866 (lwL Γ x i L5 L6 none none) [] (wI τ I1) := fun L5 L6 => WP.goto (pc := 1866) (tgt := 3458) dL_law_1866 (by decide) (hk _ _ L5 L6 none none h5 hI)
  refine WP.if_ne (pc := 1851) (tgt := 1866) dL_law_1851 (by decide) (fun _ => fin _ _) (fun c => ?_)
  have c0 : q.1 = 0 := (nI_eq (b := 0) (by omega) (by omega)).mp c
  refine WP.aload_n (pc := 1854) dL_law_1854 rfl ?_
  refine WP.iconst (pc := 1855) (v := 0) dL_law_1855 (by decide) ?_
  refine WP.laload (pc := 1856) (a := x + 74) (n := 1) ho2 vp01 dL_law_1856 ?_
  rw [show aL (wI τ I1) (x + 74) (Int32.toNatClampNeg 0) = q.2.1.toInt64 from h4 c0]
  refine WP.iload (pc := 1857) dL_law_1857 rfl ?_
  refine WP.i2l (pc := 1859) dL_law_1859 ?_
  rw [g2 c0]
  refine WP.lcmp (pc := 1860) dL_law_1860 ?_
  exact WP.if_eq (pc := 1861) (tgt := 1866) dL_law_1861 (by decide) (fun _ => fin _ _) (fun c => absurd (lg_self _) c)
set_option maxRecDepth 4000 in
theorem law_c33 (hi : i + 6 ≤ (gX Γ).2.1) (hN : (gX Γ).2.1 ≤ 4000) (hb : bd T C Z) (hs : SI σ x mm) (hv : inv T C Z mm) (hk : nxK Γ nm x i k T C Z) : WP Γ (12, 260, 40 * (k + 1), 512 * (k + 1)) (ML_law nm) lwO 1869 (lwL Γ x i none none none none) [] σ := by
  obtain ⟨hx, hm, hd, ho⟩ := id hs
  have hI : inv (T + 1) (C + 18000) (Z + 2880) (q_tradeCount mm ((gX Γ).2.2 (i + 1))).2.2 := by
    unfold q_tradeCount
    repeat' split
    all_goals exact hv.up
  have hle := qtradeCount_le mm ((gX Γ).2.2 (i + 1))
  refine WP.aload_n (pc := 1869) dL_law_1869 rfl ?_
  refine WP.aload_n (pc := 1870) dL_law_1870 rfl ?_
  refine WP.iload (pc := 1871) dL_law_1871 rfl ?_
  refine WP.iconst (pc := 1873) (v := 1) dL_law_1873 (by decide) ?_
  refine WP.iaN (pc := 1874) (a := i) (b := 1) dL_law_1874 ?_
  refine WP.xA (pc := 1875) (i := i + 1) (by omega) (by omega) dL_law_1875 ?_
  refine WP.aload_n (pc := 1876) dL_law_1876 rfl ?_
  refine WP.callSH (pc := 1877) (mc2 := 40 * k) (ms2 := 512 * k) (M' := ML_tradeCount) (List.cons_ne_nil _ _) kL_286 (CL_tradeCount Γ hx hv.1.1 ((gX Γ).2.2 (i + 1)) ho) rfl ⟨(Nat.le_of_ble_eq_true rfl), (Nat.le_of_ble_eq_true rfl)⟩ (by omega) (by omega) (Nat.le_of_ble_eq_true rfl) rfl dL_law_1877 (fun v τ hw => ?_) (fun E τ hw => nomatch hw.1)
  obtain ⟨h1, h2, h3, h4⟩ := hw
  cases h1
  obtain ⟨hx2, hm2, hd2, ho2⟩ := hs.x h2 h3
  refine WP.istore (pc := 1880) dL_law_1880 (Nat.le_of_ble_eq_true rfl) rfl ?_
  refine WP.self ?_
  refine WP.aload_n (pc := 1882) dL_law_1882 rfl ?_
  refine WP.aload_n (pc := 1883) dL_law_1883 rfl ?_
  refine WP.iload (pc := 1884) dL_law_1884 rfl ?_
  refine WP.iconst (pc := 1886) (v := 1) dL_law_1886 (by decide) ?_
  refine WP.iaN (pc := 1887) (a := i) (b := 1) dL_law_1887 ?_
  refine WP.xA (pc := 1888) (i := i + 1) (by omega) (by omega) dL_law_1888 ?_
  refine WP.cVp (pc := 1889) (mc2 := 40 * k) (ms2 := 512 * k) (ci := 9) kL_288 (CX9_tradeCount Γ hm2 hd2 hv.1.1 ((gX Γ).2.2 (i + 1))) (by decide) rfl hm2.t0 rfl ⟨(Nat.le_of_ble_eq_true rfl), (Nat.le_of_ble_eq_true rfl)⟩ (by omega) (by omega) (Nat.le_of_ble_eq_true rfl) rfl dL_law_1889 (fun v I1 ⟨g1, g2, g3, g4⟩ => ?_)
  have h5 := SI.m hx2 hm2 ho2 g3 g4
  generalize q_tradeCount mm ((gX Γ).2.2 (i + 1)) = q at *
  refine WP.istore (pc := 1892) dL_law_1892 (Nat.le_of_ble_eq_true rfl) rfl ?_
  refine WP.aload_n (pc := 1894) dL_law_1894 rfl ?_
  refine WP.cV1 (pc := 1895) (mc2 := 40 * k) (ms2 := 512 * k) (ci := 9) kL_175 (CX9_thrown Γ hm2) (by decide) rfl hm2.t0 rfl ⟨(Nat.le_of_ble_eq_true rfl), (Nat.le_of_ble_eq_true rfl)⟩ (by omega) (by omega) (Nat.le_of_ble_eq_true rfl) rfl dL_law_1895 ?_
  rw [g1]
  refine WP.iload (pc := 1898) dL_law_1898 rfl ?_
  refine WP.icmp_eq (pc := 1900) (tgt := 1905) dL_law_1900 (by decide) (fun _ => ?_) (fun c => absurd rfl c)
  refine WP.iload (pc := 1905) dL_law_1905 rfl ?_
  have fin : ∀ L5 L6, WP Γ (12, 260, 40 * k, 512 * k) (ML_law nm) lwO 1922 (lwL Γ x i L5 L6 none none) [] (wI τ I1) := fun L5 L6 => WP.goto (pc := 1922) (tgt := 3458) dL_law_1922 (by decide) (hk _ _ L5 L6 none none h5 hI)
  refine WP.if_ne (pc := 1907) (tgt := 1922) dL_law_1907 (by decide) (fun _ => fin _ _) (fun c => ?_)
  have c0 : q.1 = 0 := (nI_eq (b := 0) (by omega) (by omega)).mp c
  refine WP.aload_n (pc := 1910) dL_law_1910 rfl ?_
  refine WP.iconst (pc := 1911) (v := 0) dL_law_1911 (by decide) ?_
  refine WP.laload (pc := 1912) (a := x + 74) (n := 1) ho2 vp01 dL_law_1912 ?_
  rw [show aL (wI τ I1) (x + 74) (Int32.toNatClampNeg 0) = q.2.1.toInt64 from h4 c0]
  refine WP.iload (pc := 1913) dL_law_1913 rfl ?_
  refine WP.i2l (pc := 1915) dL_law_1915 ?_
  rw [g2 c0]
  refine WP.lcmp (pc := 1916) dL_law_1916 ?_
  exact WP.if_eq (pc := 1917) (tgt := 1922) dL_law_1917 (by decide) (fun _ => fin _ _) (fun c => absurd (lg_self _) c)
set_option maxRecDepth 4000 in
theorem law_c34 (hi : i + 6 ≤ (gX Γ).2.1) (hN : (gX Γ).2.1 ≤ 4000) (hb : bd T C Z) (hs : SI σ x mm) (hv : inv T C Z mm) (hk : nxK Γ nm x i k T C Z) : WP Γ (12, 260, 40 * (k + 1), 512 * (k + 1)) (ML_law nm) lwO 1925 (lwL Γ x i none none none none) [] σ := by
  obtain ⟨hx, hm, hd, ho⟩ := id hs
  have hI : inv (T + 1) (C + 18000) (Z + 2880) (q_clearingPrice mm ((gX Γ).2.2 (i + 1))).2.2 := by
    unfold q_clearingPrice
    repeat' split
    all_goals exact hv.up
  have hle := qclearingPrice_le mm ((gX Γ).2.2 (i + 1))
  refine WP.aload_n (pc := 1925) dL_law_1925 rfl ?_
  refine WP.aload_n (pc := 1926) dL_law_1926 rfl ?_
  refine WP.iload (pc := 1927) dL_law_1927 rfl ?_
  refine WP.iconst (pc := 1929) (v := 1) dL_law_1929 (by decide) ?_
  refine WP.iaN (pc := 1930) (a := i) (b := 1) dL_law_1930 ?_
  refine WP.xA (pc := 1931) (i := i + 1) (by omega) (by omega) dL_law_1931 ?_
  refine WP.aload_n (pc := 1932) dL_law_1932 rfl ?_
  refine WP.callSH (pc := 1933) (mc2 := 40 * k) (ms2 := 512 * k) (M' := ML_clearingPrice) (List.cons_ne_nil _ _) kL_289 (CL_clearingPrice Γ hx hv.1.1 ((gX Γ).2.2 (i + 1)) ho) rfl ⟨(Nat.le_of_ble_eq_true rfl), (Nat.le_of_ble_eq_true rfl)⟩ (by omega) (by omega) (Nat.le_of_ble_eq_true rfl) rfl dL_law_1933 (fun v τ hw => ?_) (fun E τ hw => nomatch hw.1)
  obtain ⟨h1, h2, h3, h4⟩ := hw
  cases h1
  obtain ⟨hx2, hm2, hd2, ho2⟩ := hs.x h2 h3
  refine WP.istore (pc := 1936) dL_law_1936 (Nat.le_of_ble_eq_true rfl) rfl ?_
  refine WP.self ?_
  refine WP.aload_n (pc := 1938) dL_law_1938 rfl ?_
  refine WP.aload_n (pc := 1939) dL_law_1939 rfl ?_
  refine WP.iload (pc := 1940) dL_law_1940 rfl ?_
  refine WP.iconst (pc := 1942) (v := 1) dL_law_1942 (by decide) ?_
  refine WP.iaN (pc := 1943) (a := i) (b := 1) dL_law_1943 ?_
  refine WP.xA (pc := 1944) (i := i + 1) (by omega) (by omega) dL_law_1944 ?_
  refine WP.cVp (pc := 1945) (mc2 := 40 * k) (ms2 := 512 * k) (ci := 9) kL_291 (CX9_clearingPrice Γ hm2 hd2 hv.1.1 ((gX Γ).2.2 (i + 1))) (by decide) rfl hm2.t0 rfl ⟨(Nat.le_of_ble_eq_true rfl), (Nat.le_of_ble_eq_true rfl)⟩ (by omega) (by omega) (Nat.le_of_ble_eq_true rfl) rfl dL_law_1945 (fun v I1 ⟨g1, g2, g3, g4⟩ => ?_)
  have h5 := SI.m hx2 hm2 ho2 g3 g4
  generalize q_clearingPrice mm ((gX Γ).2.2 (i + 1)) = q at *
  refine WP.istore (pc := 1948) dL_law_1948 (Nat.le_of_ble_eq_true rfl) rfl ?_
  refine WP.aload_n (pc := 1950) dL_law_1950 rfl ?_
  refine WP.cV1 (pc := 1951) (mc2 := 40 * k) (ms2 := 512 * k) (ci := 9) kL_175 (CX9_thrown Γ hm2) (by decide) rfl hm2.t0 rfl ⟨(Nat.le_of_ble_eq_true rfl), (Nat.le_of_ble_eq_true rfl)⟩ (by omega) (by omega) (Nat.le_of_ble_eq_true rfl) rfl dL_law_1951 ?_
  rw [g1]
  refine WP.iload (pc := 1954) dL_law_1954 rfl ?_
  refine WP.icmp_eq (pc := 1956) (tgt := 1961) dL_law_1956 (by decide) (fun _ => ?_) (fun c => absurd rfl c)
  refine WP.iload (pc := 1961) dL_law_1961 rfl ?_
  have fin : ∀ L5 L6, WP Γ (12, 260, 40 * k, 512 * k) (ML_law nm) lwO 1978 (lwL Γ x i L5 L6 none none) [] (wI τ I1) := fun L5 L6 => WP.goto (pc := 1978) (tgt := 3458) dL_law_1978 (by decide) (hk _ _ L5 L6 none none h5 hI)
  refine WP.if_ne (pc := 1963) (tgt := 1978) dL_law_1963 (by decide) (fun _ => fin _ _) (fun c => ?_)
  have c0 : q.1 = 0 := (nI_eq (b := 0) (by omega) (by omega)).mp c
  refine WP.aload_n (pc := 1966) dL_law_1966 rfl ?_
  refine WP.iconst (pc := 1967) (v := 0) dL_law_1967 (by decide) ?_
  refine WP.laload (pc := 1968) (a := x + 74) (n := 1) ho2 vp01 dL_law_1968 ?_
  rw [show aL (wI τ I1) (x + 74) (Int32.toNatClampNeg 0) = q.2.1.toInt64 from h4 c0]
  refine WP.iload (pc := 1969) dL_law_1969 rfl ?_
  refine WP.i2l (pc := 1971) dL_law_1971 ?_
  rw [g2 c0]
  refine WP.lcmp (pc := 1972) dL_law_1972 ?_
  exact WP.if_eq (pc := 1973) (tgt := 1978) dL_law_1973 (by decide) (fun _ => fin _ _) (fun c => absurd (lg_self _) c)
set_option maxRecDepth 4000 in
theorem law_c35 (hi : i + 6 ≤ (gX Γ).2.1) (hN : (gX Γ).2.1 ≤ 4000) (hb : bd T C Z) (hs : SI σ x mm) (hv : inv T C Z mm) (hk : nxK Γ nm x i k T C Z) : WP Γ (12, 260, 40 * (k + 1), 512 * (k + 1)) (ML_law nm) lwO 1981 (lwL Γ x i none none none none) [] σ := by
  obtain ⟨hx, hm, hd, ho⟩ := id hs
  have hI : inv (T + 1) (C + 18000) (Z + 2880) (q_reasonNoTrades mm ((gX Γ).2.2 (i + 1))).2.2 := by
    unfold q_reasonNoTrades
    repeat' split
    all_goals exact hv.up
  have hle := qreasonNoTrades_le mm ((gX Γ).2.2 (i + 1))
  refine WP.aload_n (pc := 1981) dL_law_1981 rfl ?_
  refine WP.aload_n (pc := 1982) dL_law_1982 rfl ?_
  refine WP.iload (pc := 1983) dL_law_1983 rfl ?_
  refine WP.iconst (pc := 1985) (v := 1) dL_law_1985 (by decide) ?_
  refine WP.iaN (pc := 1986) (a := i) (b := 1) dL_law_1986 ?_
  refine WP.xA (pc := 1987) (i := i + 1) (by omega) (by omega) dL_law_1987 ?_
  refine WP.aload_n (pc := 1988) dL_law_1988 rfl ?_
  refine WP.callSH (pc := 1989) (mc2 := 40 * k) (ms2 := 512 * k) (M' := ML_reasonNoTrades) (List.cons_ne_nil _ _) kL_292 (CL_reasonNoTrades Γ hx hv.1.1 ((gX Γ).2.2 (i + 1)) ho) rfl ⟨(Nat.le_of_ble_eq_true rfl), (Nat.le_of_ble_eq_true rfl)⟩ (by omega) (by omega) (Nat.le_of_ble_eq_true rfl) rfl dL_law_1989 (fun v τ hw => ?_) (fun E τ hw => nomatch hw.1)
  obtain ⟨h1, h2, h3, h4⟩ := hw
  cases h1
  obtain ⟨hx2, hm2, hd2, ho2⟩ := hs.x h2 h3
  refine WP.istore (pc := 1992) dL_law_1992 (Nat.le_of_ble_eq_true rfl) rfl ?_
  refine WP.self ?_
  refine WP.aload_n (pc := 1994) dL_law_1994 rfl ?_
  refine WP.aload_n (pc := 1995) dL_law_1995 rfl ?_
  refine WP.iload (pc := 1996) dL_law_1996 rfl ?_
  refine WP.iconst (pc := 1998) (v := 1) dL_law_1998 (by decide) ?_
  refine WP.iaN (pc := 1999) (a := i) (b := 1) dL_law_1999 ?_
  refine WP.xA (pc := 2000) (i := i + 1) (by omega) (by omega) dL_law_2000 ?_
  refine WP.cVp (pc := 2001) (mc2 := 40 * k) (ms2 := 512 * k) (ci := 9) kL_294 (CX9_reasonNoTrades Γ hm2 hd2 hv.1.1 ((gX Γ).2.2 (i + 1))) (by decide) rfl hm2.t0 rfl ⟨(Nat.le_of_ble_eq_true rfl), (Nat.le_of_ble_eq_true rfl)⟩ (by omega) (by omega) (Nat.le_of_ble_eq_true rfl) rfl dL_law_2001 (fun v I1 ⟨g1, g2, g3, g4⟩ => ?_)
  have h5 := SI.m hx2 hm2 ho2 g3 g4
  generalize q_reasonNoTrades mm ((gX Γ).2.2 (i + 1)) = q at *
  refine WP.istore (pc := 2004) dL_law_2004 (Nat.le_of_ble_eq_true rfl) rfl ?_
  refine WP.aload_n (pc := 2006) dL_law_2006 rfl ?_
  refine WP.cV1 (pc := 2007) (mc2 := 40 * k) (ms2 := 512 * k) (ci := 9) kL_175 (CX9_thrown Γ hm2) (by decide) rfl hm2.t0 rfl ⟨(Nat.le_of_ble_eq_true rfl), (Nat.le_of_ble_eq_true rfl)⟩ (by omega) (by omega) (Nat.le_of_ble_eq_true rfl) rfl dL_law_2007 ?_
  rw [g1]
  refine WP.iload (pc := 2010) dL_law_2010 rfl ?_
  refine WP.icmp_eq (pc := 2012) (tgt := 2017) dL_law_2012 (by decide) (fun _ => ?_) (fun c => absurd rfl c)
  refine WP.iload (pc := 2017) dL_law_2017 rfl ?_
  have fin : ∀ L5 L6, WP Γ (12, 260, 40 * k, 512 * k) (ML_law nm) lwO 2034 (lwL Γ x i L5 L6 none none) [] (wI τ I1) := fun L5 L6 => WP.goto (pc := 2034) (tgt := 3458) dL_law_2034 (by decide) (hk _ _ L5 L6 none none h5 hI)
  refine WP.if_ne (pc := 2019) (tgt := 2034) dL_law_2019 (by decide) (fun _ => fin _ _) (fun c => ?_)
  have c0 : q.1 = 0 := (nI_eq (b := 0) (by omega) (by omega)).mp c
  refine WP.aload_n (pc := 2022) dL_law_2022 rfl ?_
  refine WP.iconst (pc := 2023) (v := 0) dL_law_2023 (by decide) ?_
  refine WP.laload (pc := 2024) (a := x + 74) (n := 1) ho2 vp01 dL_law_2024 ?_
  rw [show aL (wI τ I1) (x + 74) (Int32.toNatClampNeg 0) = q.2.1.toInt64 from h4 c0]
  refine WP.iload (pc := 2025) dL_law_2025 rfl ?_
  refine WP.i2l (pc := 2027) dL_law_2027 ?_
  rw [g2 c0]
  refine WP.lcmp (pc := 2028) dL_law_2028 ?_
  exact WP.if_eq (pc := 2029) (tgt := 2034) dL_law_2029 (by decide) (fun _ => fin _ _) (fun c => absurd (lg_self _) c)
set_option maxRecDepth 4000 in
theorem law_c36 (hi : i + 6 ≤ (gX Γ).2.1) (hN : (gX Γ).2.1 ≤ 4000) (hb : bd T C Z) (hs : SI σ x mm) (hv : inv T C Z mm) (hk : nxK Γ nm x i k T C Z) : WP Γ (12, 260, 40 * (k + 1), 512 * (k + 1)) (ML_law nm) lwO 2037 (lwL Γ x i none none none none) [] σ := by
  obtain ⟨hx, hm, hd, ho⟩ := id hs
  have hI : inv (T + 1) (C + 18000) (Z + 2880) (q_buyerOf mm ((gX Γ).2.2 (i + 1)) ((gX Γ).2.2 (i + 2))).2.2 := by
    unfold q_buyerOf
    repeat' split
    all_goals exact hv.up
  have hle := qbuyerOf_le mm ((gX Γ).2.2 (i + 1)) ((gX Γ).2.2 (i + 2))
  refine WP.aload_n (pc := 2037) dL_law_2037 rfl ?_
  refine WP.aload_n (pc := 2038) dL_law_2038 rfl ?_
  refine WP.iload (pc := 2039) dL_law_2039 rfl ?_
  refine WP.iconst (pc := 2041) (v := 1) dL_law_2041 (by decide) ?_
  refine WP.iaN (pc := 2042) (a := i) (b := 1) dL_law_2042 ?_
  refine WP.xA (pc := 2043) (i := i + 1) (by omega) (by omega) dL_law_2043 ?_
  refine WP.aload_n (pc := 2044) dL_law_2044 rfl ?_
  refine WP.iload (pc := 2045) dL_law_2045 rfl ?_
  refine WP.iconst (pc := 2047) (v := 2) dL_law_2047 (by decide) ?_
  refine WP.iaN (pc := 2048) (a := i) (b := 2) dL_law_2048 ?_
  refine WP.xA (pc := 2049) (i := i + 2) (by omega) (by omega) dL_law_2049 ?_
  refine WP.aload_n (pc := 2050) dL_law_2050 rfl ?_
  refine WP.callSH (pc := 2051) (mc2 := 40 * k) (ms2 := 512 * k) (M' := ML_buyerOf) (List.cons_ne_nil _ _) kL_295 (CL_buyerOf Γ hx hv.1.1 ((gX Γ).2.2 (i + 1)) ((gX Γ).2.2 (i + 2)) ho) rfl ⟨(Nat.le_of_ble_eq_true rfl), (Nat.le_of_ble_eq_true rfl)⟩ (by omega) (by omega) (Nat.le_of_ble_eq_true rfl) rfl dL_law_2051 (fun v τ hw => ?_) (fun E τ hw => nomatch hw.1)
  obtain ⟨h1, h2, h3, h4⟩ := hw
  cases h1
  obtain ⟨hx2, hm2, hd2, ho2⟩ := hs.x h2 h3
  refine WP.istore (pc := 2054) dL_law_2054 (Nat.le_of_ble_eq_true rfl) rfl ?_
  refine WP.self ?_
  refine WP.aload_n (pc := 2056) dL_law_2056 rfl ?_
  refine WP.aload_n (pc := 2057) dL_law_2057 rfl ?_
  refine WP.iload (pc := 2058) dL_law_2058 rfl ?_
  refine WP.iconst (pc := 2060) (v := 1) dL_law_2060 (by decide) ?_
  refine WP.iaN (pc := 2061) (a := i) (b := 1) dL_law_2061 ?_
  refine WP.xA (pc := 2062) (i := i + 1) (by omega) (by omega) dL_law_2062 ?_
  refine WP.aload_n (pc := 2063) dL_law_2063 rfl ?_
  refine WP.iload (pc := 2064) dL_law_2064 rfl ?_
  refine WP.iconst (pc := 2066) (v := 2) dL_law_2066 (by decide) ?_
  refine WP.iaN (pc := 2067) (a := i) (b := 2) dL_law_2067 ?_
  refine WP.xA (pc := 2068) (i := i + 2) (by omega) (by omega) dL_law_2068 ?_
  refine WP.cVp (pc := 2069) (mc2 := 40 * k) (ms2 := 512 * k) (ci := 9) kL_297 (CX9_buyerOf Γ hm2 hd2 hv.1.1 ((gX Γ).2.2 (i + 1)) ((gX Γ).2.2 (i + 2))) (by decide) rfl hm2.t0 rfl ⟨(Nat.le_of_ble_eq_true rfl), (Nat.le_of_ble_eq_true rfl)⟩ (by omega) (by omega) (Nat.le_of_ble_eq_true rfl) rfl dL_law_2069 (fun v I1 ⟨g1, g2, g3, g4⟩ => ?_)
  have h5 := SI.m hx2 hm2 ho2 g3 g4
  generalize q_buyerOf mm ((gX Γ).2.2 (i + 1)) ((gX Γ).2.2 (i + 2)) = q at *
  refine WP.istore (pc := 2072) dL_law_2072 (Nat.le_of_ble_eq_true rfl) rfl ?_
  refine WP.aload_n (pc := 2074) dL_law_2074 rfl ?_
  refine WP.cV1 (pc := 2075) (mc2 := 40 * k) (ms2 := 512 * k) (ci := 9) kL_175 (CX9_thrown Γ hm2) (by decide) rfl hm2.t0 rfl ⟨(Nat.le_of_ble_eq_true rfl), (Nat.le_of_ble_eq_true rfl)⟩ (by omega) (by omega) (Nat.le_of_ble_eq_true rfl) rfl dL_law_2075 ?_
  rw [g1]
  refine WP.iload (pc := 2078) dL_law_2078 rfl ?_
  refine WP.icmp_eq (pc := 2080) (tgt := 2085) dL_law_2080 (by decide) (fun _ => ?_) (fun c => absurd rfl c)
  refine WP.iload (pc := 2085) dL_law_2085 rfl ?_
  have fin : ∀ L5 L6, WP Γ (12, 260, 40 * k, 512 * k) (ML_law nm) lwO 2102 (lwL Γ x i L5 L6 none none) [] (wI τ I1) := fun L5 L6 => WP.goto (pc := 2102) (tgt := 3458) dL_law_2102 (by decide) (hk _ _ L5 L6 none none h5 hI)
  refine WP.if_ne (pc := 2087) (tgt := 2102) dL_law_2087 (by decide) (fun _ => fin _ _) (fun c => ?_)
  have c0 : q.1 = 0 := (nI_eq (b := 0) (by omega) (by omega)).mp c
  refine WP.aload_n (pc := 2090) dL_law_2090 rfl ?_
  refine WP.iconst (pc := 2091) (v := 0) dL_law_2091 (by decide) ?_
  refine WP.laload (pc := 2092) (a := x + 74) (n := 1) ho2 vp01 dL_law_2092 ?_
  rw [show aL (wI τ I1) (x + 74) (Int32.toNatClampNeg 0) = q.2.1.toInt64 from h4 c0]
  refine WP.iload (pc := 2093) dL_law_2093 rfl ?_
  refine WP.i2l (pc := 2095) dL_law_2095 ?_
  rw [g2 c0]
  refine WP.lcmp (pc := 2096) dL_law_2096 ?_
  exact WP.if_eq (pc := 2097) (tgt := 2102) dL_law_2097 (by decide) (fun _ => fin _ _) (fun c => absurd (lg_self _) c)
set_option maxRecDepth 4000 in
theorem law_c37 (hi : i + 6 ≤ (gX Γ).2.1) (hN : (gX Γ).2.1 ≤ 4000) (hb : bd T C Z) (hs : SI σ x mm) (hv : inv T C Z mm) (hk : nxK Γ nm x i k T C Z) : WP Γ (12, 260, 40 * (k + 1), 512 * (k + 1)) (ML_law nm) lwO 2105 (lwL Γ x i none none none none) [] σ := by
  obtain ⟨hx, hm, hd, ho⟩ := id hs
  have hI : inv (T + 1) (C + 18000) (Z + 2880) (q_loafOf mm ((gX Γ).2.2 (i + 1)) ((gX Γ).2.2 (i + 2))).2.2 := by
    unfold q_loafOf
    repeat' split
    all_goals exact hv.up
  have hle := qloafOf_le mm ((gX Γ).2.2 (i + 1)) ((gX Γ).2.2 (i + 2))
  refine WP.aload_n (pc := 2105) dL_law_2105 rfl ?_
  refine WP.aload_n (pc := 2106) dL_law_2106 rfl ?_
  refine WP.iload (pc := 2107) dL_law_2107 rfl ?_
  refine WP.iconst (pc := 2109) (v := 1) dL_law_2109 (by decide) ?_
  refine WP.iaN (pc := 2110) (a := i) (b := 1) dL_law_2110 ?_
  refine WP.xA (pc := 2111) (i := i + 1) (by omega) (by omega) dL_law_2111 ?_
  refine WP.aload_n (pc := 2112) dL_law_2112 rfl ?_
  refine WP.iload (pc := 2113) dL_law_2113 rfl ?_
  refine WP.iconst (pc := 2115) (v := 2) dL_law_2115 (by decide) ?_
  refine WP.iaN (pc := 2116) (a := i) (b := 2) dL_law_2116 ?_
  refine WP.xA (pc := 2117) (i := i + 2) (by omega) (by omega) dL_law_2117 ?_
  refine WP.aload_n (pc := 2118) dL_law_2118 rfl ?_
  refine WP.callSH (pc := 2119) (mc2 := 40 * k) (ms2 := 512 * k) (M' := ML_loafOf) (List.cons_ne_nil _ _) kL_298 (CL_loafOf Γ hx hv.1.1 ((gX Γ).2.2 (i + 1)) ((gX Γ).2.2 (i + 2)) ho) rfl ⟨(Nat.le_of_ble_eq_true rfl), (Nat.le_of_ble_eq_true rfl)⟩ (by omega) (by omega) (Nat.le_of_ble_eq_true rfl) rfl dL_law_2119 (fun v τ hw => ?_) (fun E τ hw => nomatch hw.1)
  obtain ⟨h1, h2, h3, h4⟩ := hw
  cases h1
  obtain ⟨hx2, hm2, hd2, ho2⟩ := hs.x h2 h3
  refine WP.istore (pc := 2122) dL_law_2122 (Nat.le_of_ble_eq_true rfl) rfl ?_
  refine WP.self ?_
  refine WP.aload_n (pc := 2124) dL_law_2124 rfl ?_
  refine WP.aload_n (pc := 2125) dL_law_2125 rfl ?_
  refine WP.iload (pc := 2126) dL_law_2126 rfl ?_
  refine WP.iconst (pc := 2128) (v := 1) dL_law_2128 (by decide) ?_
  refine WP.iaN (pc := 2129) (a := i) (b := 1) dL_law_2129 ?_
  refine WP.xA (pc := 2130) (i := i + 1) (by omega) (by omega) dL_law_2130 ?_
  refine WP.aload_n (pc := 2131) dL_law_2131 rfl ?_
  refine WP.iload (pc := 2132) dL_law_2132 rfl ?_
  refine WP.iconst (pc := 2134) (v := 2) dL_law_2134 (by decide) ?_
  refine WP.iaN (pc := 2135) (a := i) (b := 2) dL_law_2135 ?_
  refine WP.xA (pc := 2136) (i := i + 2) (by omega) (by omega) dL_law_2136 ?_
  refine WP.cVp (pc := 2137) (mc2 := 40 * k) (ms2 := 512 * k) (ci := 9) kL_300 (CX9_loafOf Γ hm2 hd2 hv.1.1 ((gX Γ).2.2 (i + 1)) ((gX Γ).2.2 (i + 2))) (by decide) rfl hm2.t0 rfl ⟨(Nat.le_of_ble_eq_true rfl), (Nat.le_of_ble_eq_true rfl)⟩ (by omega) (by omega) (Nat.le_of_ble_eq_true rfl) rfl dL_law_2137 (fun v I1 ⟨g1, g2, g3, g4⟩ => ?_)
  have h5 := SI.m hx2 hm2 ho2 g3 g4
  generalize q_loafOf mm ((gX Γ).2.2 (i + 1)) ((gX Γ).2.2 (i + 2)) = q at *
  refine WP.istore (pc := 2140) dL_law_2140 (Nat.le_of_ble_eq_true rfl) rfl ?_
  refine WP.aload_n (pc := 2142) dL_law_2142 rfl ?_
  refine WP.cV1 (pc := 2143) (mc2 := 40 * k) (ms2 := 512 * k) (ci := 9) kL_175 (CX9_thrown Γ hm2) (by decide) rfl hm2.t0 rfl ⟨(Nat.le_of_ble_eq_true rfl), (Nat.le_of_ble_eq_true rfl)⟩ (by omega) (by omega) (Nat.le_of_ble_eq_true rfl) rfl dL_law_2143 ?_
  rw [g1]
  refine WP.iload (pc := 2146) dL_law_2146 rfl ?_
  refine WP.icmp_eq (pc := 2148) (tgt := 2153) dL_law_2148 (by decide) (fun _ => ?_) (fun c => absurd rfl c)
  refine WP.iload (pc := 2153) dL_law_2153 rfl ?_
  have fin : ∀ L5 L6, WP Γ (12, 260, 40 * k, 512 * k) (ML_law nm) lwO 2170 (lwL Γ x i L5 L6 none none) [] (wI τ I1) := fun L5 L6 => WP.goto (pc := 2170) (tgt := 3458) dL_law_2170 (by decide) (hk _ _ L5 L6 none none h5 hI)
  refine WP.if_ne (pc := 2155) (tgt := 2170) dL_law_2155 (by decide) (fun _ => fin _ _) (fun c => ?_)
  have c0 : q.1 = 0 := (nI_eq (b := 0) (by omega) (by omega)).mp c
  refine WP.aload_n (pc := 2158) dL_law_2158 rfl ?_
  refine WP.iconst (pc := 2159) (v := 0) dL_law_2159 (by decide) ?_
  refine WP.laload (pc := 2160) (a := x + 74) (n := 1) ho2 vp01 dL_law_2160 ?_
  rw [show aL (wI τ I1) (x + 74) (Int32.toNatClampNeg 0) = q.2.1.toInt64 from h4 c0]
  refine WP.iload (pc := 2161) dL_law_2161 rfl ?_
  refine WP.i2l (pc := 2163) dL_law_2163 ?_
  rw [g2 c0]
  refine WP.lcmp (pc := 2164) dL_law_2164 ?_
  exact WP.if_eq (pc := 2165) (tgt := 2170) dL_law_2165 (by decide) (fun _ => fin _ _) (fun c => absurd (lg_self _) c)
set_option maxRecDepth 4000 in
theorem law_c38 (hi : i + 6 ≤ (gX Γ).2.1) (hN : (gX Γ).2.1 ≤ 4000) (hb : bd T C Z) (hs : SI σ x mm) (hv : inv T C Z mm) (hk : nxK Γ nm x i k T C Z) : WP Γ (12, 260, 40 * (k + 1), 512 * (k + 1)) (ML_law nm) lwO 2173 (lwL Γ x i none none none none) [] σ := by
  obtain ⟨hx, hm, hd, ho⟩ := id hs
  have hI : inv (T + 1) (C + 18000) (Z + 2880) (q_gain mm ((gX Γ).2.2 (i + 1))).2.2 := by
    unfold q_gain
    repeat' split
    all_goals exact hv.up
  have hle := qgain_le mm ((gX Γ).2.2 (i + 1))
  refine WP.aload_n (pc := 2173) dL_law_2173 rfl ?_
  refine WP.aload_n (pc := 2174) dL_law_2174 rfl ?_
  refine WP.iload (pc := 2175) dL_law_2175 rfl ?_
  refine WP.iconst (pc := 2177) (v := 1) dL_law_2177 (by decide) ?_
  refine WP.iaN (pc := 2178) (a := i) (b := 1) dL_law_2178 ?_
  refine WP.xA (pc := 2179) (i := i + 1) (by omega) (by omega) dL_law_2179 ?_
  refine WP.aload_n (pc := 2180) dL_law_2180 rfl ?_
  refine WP.callSH (pc := 2181) (mc2 := 40 * k) (ms2 := 512 * k) (M' := ML_gain) (List.cons_ne_nil _ _) kL_301 (CL_gain Γ hx hv.1.1 ((gX Γ).2.2 (i + 1)) ho) rfl ⟨(Nat.le_of_ble_eq_true rfl), (Nat.le_of_ble_eq_true rfl)⟩ (by omega) (by omega) (Nat.le_of_ble_eq_true rfl) rfl dL_law_2181 (fun v τ hw => ?_) (fun E τ hw => nomatch hw.1)
  obtain ⟨h1, h2, h3, h4⟩ := hw
  cases h1
  obtain ⟨hx2, hm2, hd2, ho2⟩ := hs.x h2 h3
  refine WP.istore (pc := 2184) dL_law_2184 (Nat.le_of_ble_eq_true rfl) rfl ?_
  refine WP.self ?_
  refine WP.aload_n (pc := 2186) dL_law_2186 rfl ?_
  refine WP.aload_n (pc := 2187) dL_law_2187 rfl ?_
  refine WP.iload (pc := 2188) dL_law_2188 rfl ?_
  refine WP.iconst (pc := 2190) (v := 1) dL_law_2190 (by decide) ?_
  refine WP.iaN (pc := 2191) (a := i) (b := 1) dL_law_2191 ?_
  refine WP.xA (pc := 2192) (i := i + 1) (by omega) (by omega) dL_law_2192 ?_
  refine WP.cVp (pc := 2193) (mc2 := 40 * k) (ms2 := 512 * k) (ci := 9) kL_303 (CX9_gain Γ hm2 hd2 hv.1.1 ((gX Γ).2.2 (i + 1))) (by decide) rfl hm2.t0 rfl ⟨(Nat.le_of_ble_eq_true rfl), (Nat.le_of_ble_eq_true rfl)⟩ (by omega) (by omega) (Nat.le_of_ble_eq_true rfl) rfl dL_law_2193 (fun v I1 ⟨g1, g2, g3, g4⟩ => ?_)
  have h5 := SI.m hx2 hm2 ho2 g3 g4
  generalize q_gain mm ((gX Γ).2.2 (i + 1)) = q at *
  refine WP.istore (pc := 2196) dL_law_2196 (Nat.le_of_ble_eq_true rfl) rfl ?_
  refine WP.aload_n (pc := 2198) dL_law_2198 rfl ?_
  refine WP.cV1 (pc := 2199) (mc2 := 40 * k) (ms2 := 512 * k) (ci := 9) kL_175 (CX9_thrown Γ hm2) (by decide) rfl hm2.t0 rfl ⟨(Nat.le_of_ble_eq_true rfl), (Nat.le_of_ble_eq_true rfl)⟩ (by omega) (by omega) (Nat.le_of_ble_eq_true rfl) rfl dL_law_2199 ?_
  rw [g1]
  refine WP.iload (pc := 2202) dL_law_2202 rfl ?_
  refine WP.icmp_eq (pc := 2204) (tgt := 2209) dL_law_2204 (by decide) (fun _ => ?_) (fun c => absurd rfl c)
  refine WP.iload (pc := 2209) dL_law_2209 rfl ?_
  have fin : ∀ L5 L6, WP Γ (12, 260, 40 * k, 512 * k) (ML_law nm) lwO 2226 (lwL Γ x i L5 L6 none none) [] (wI τ I1) := fun L5 L6 => WP.goto (pc := 2226) (tgt := 3458) dL_law_2226 (by decide) (hk _ _ L5 L6 none none h5 hI)
  refine WP.if_ne (pc := 2211) (tgt := 2226) dL_law_2211 (by decide) (fun _ => fin _ _) (fun c => ?_)
  have c0 : q.1 = 0 := (nI_eq (b := 0) (by omega) (by omega)).mp c
  refine WP.aload_n (pc := 2214) dL_law_2214 rfl ?_
  refine WP.iconst (pc := 2215) (v := 0) dL_law_2215 (by decide) ?_
  refine WP.laload (pc := 2216) (a := x + 74) (n := 1) ho2 vp01 dL_law_2216 ?_
  rw [show aL (wI τ I1) (x + 74) (Int32.toNatClampNeg 0) = q.2.1.toInt64 from h4 c0]
  refine WP.iload (pc := 2217) dL_law_2217 rfl ?_
  refine WP.i2l (pc := 2219) dL_law_2219 ?_
  rw [g2 c0]
  refine WP.lcmp (pc := 2220) dL_law_2220 ?_
  exact WP.if_eq (pc := 2221) (tgt := 2226) dL_law_2221 (by decide) (fun _ => fin _ _) (fun c => absurd (lg_self _) c)
set_option maxRecDepth 4000 in
theorem law_c39 (hi : i + 6 ≤ (gX Γ).2.1) (hN : (gX Γ).2.1 ≤ 4000) (hb : bd T C Z) (hs : SI σ x mm) (hv : inv T C Z mm) (hk : nxK Γ nm x i k T C Z) : WP Γ (12, 260, 40 * (k + 1), 512 * (k + 1)) (ML_law nm) lwO 2229 (lwL Γ x i none none none none) [] σ := by
  obtain ⟨hx, hm, hd, ho⟩ := id hs
  have hI : inv (T + 1) (C + 18000) (Z + 2880) (q_eventCount mm).2.2 := hv.up
  refine WP.aload_n (pc := 2229) dL_law_2229 rfl ?_
  refine WP.cXO (pc := 2230) (mc2 := 40 * k) (ms2 := 512 * k) kL_304 (CX8_eventCount Γ hx) rfl hx.1.t0 rfl ⟨(Nat.le_of_ble_eq_true rfl), (Nat.le_of_ble_eq_true rfl)⟩ (by omega) (by omega) (Nat.le_of_ble_eq_true rfl) rfl dL_law_2230 (fun τ h0 h2 h3 => ?_) (fun τ t h0 _ _ => absurd (show (0 : Nat) = t + 1 from h0) (by omega))
  obtain ⟨hx2, hm2, hd2, ho2⟩ := hs.x h2 (fun a c1 c2 => ⟨(h3 a c1 c2).1, (h3 a c1 c2).2.1, (h3 a c1 c2).2.2.1⟩)
  refine WP.self ?_
  refine WP.aload_n (pc := 2233) dL_law_2233 rfl ?_
  refine WP.cVp (pc := 2234) (mc2 := 40 * k) (ms2 := 512 * k) (ci := 9) kL_307 (CX9_eventCount Γ hm2 hd2) (by decide) rfl hm2.t0 rfl ⟨(Nat.le_of_ble_eq_true rfl), (Nat.le_of_ble_eq_true rfl)⟩ (by omega) (by omega) (Nat.le_of_ble_eq_true rfl) rfl dL_law_2234 (fun v I1 ⟨g1, g2, g3, g4⟩ => ?_)
  have h5 := SI.m hx2 hm2 ho2 g3 g4
  exact WP.icmp_eq (pc := 2237) (tgt := 3458) dL_law_2237 (by decide) (fun _ => hk _ _ none none none none h5 hI) (fun c => absurd (g2 h0).symm c)
end T
