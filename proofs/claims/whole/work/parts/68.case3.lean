set_option maxRecDepth 100000 in
set_option maxHeartbeats 8000000 in
theorem law_22 {X : sx_T} {E : sv_E} {Q : State → Prop} {L : Nat} {xs : Nat → Int32} {u w : Nat} {σ : sv_G} {S : st_T} {i : Int} {tb9 : List ExceptionTableEntry} (C : sx_ok X E (DL tb9)) (hX : sv_X X E L xs) (hL9 : L ≤ 20000) (hu : u + 6 ≤ 601024 ∧ w + 36 ≤ 7293034) (hi : 0 ≤ i ∧ i + 6 ≤ L) (hS : StOK S) (hN : RN σ S) (hO : RO σ S) (kk : ∀ (σ9 : sv_G) (S9 : st_T), StOK S9 → RN σ9 S9 → RO σ9 S9 → SW X E Q (u + 6) (w + 36) 2377 (lsL i) [] σ9) : SW X E Q u w 1754 (lsL i) [] σ := by
  refine s_aload_n C dL_law_1754 rfl ?_
  refine s_cV0i C dL_law_1755 lkL_184 moX7_dropExamples mvX7_dropExamples (kX7_dropExamples hS hN) sh_0 ⟨_, _, rfl⟩ (Nat.le_of_ble_eq_true rfl) (Nat.le_of_ble_eq_true rfl) rfl ⟨(show u ≤ 601024 by omega), (show w ≤ 7293034 by omega)⟩ (fun r1_ σ1 hp => ?_)
  obtain ⟨p0, p1, p2, p3, p4⟩ := hp
  have hO1 := hO.fr (σ9 := σ1) fun b k q => p4 b k (by omega)
  refine s_asI (wrI_ofInt _) ?_
  refine s_aload_n C dL_law_1758 rfl ?_
  refine s_cV0i C dL_law_1759 lkL_187 moX8_dropExamples mvX8_dropExamples (kX8_dropExamples hS hO1) sh_195 ⟨_, _, rfl⟩ (Nat.le_of_ble_eq_true rfl) (Nat.le_of_ble_eq_true rfl) rfl ⟨(show u ≤ 601024 by omega), (show w ≤ 7293034 by omega)⟩ (fun r2_ σ2 hm => ?_)
  obtain ⟨m1, m2, m3, m4⟩ := hm
  obtain ⟨q4, q5⟩ := m2 rfl
  have er : r1_ = r2_ := p1.trans q4.symm
  refine s_asI (wrI_ofInt _) ?_
  refine s_icmp_eq (tgt := 2377) C dL_law_1762 (by decide) (wrI_rng _) (wrI_rng _) (fun c3 => ?_) (fun c3 => ?_)
  · exact s_widen (by omega) (by omega) (kk σ2 (op_dropExamples S).2.2 p3 (p2.low p3 m4) q5)
  · exact absurd (by rw [er]) c3
set_option maxRecDepth 100000 in
set_option maxHeartbeats 8000000 in
theorem law_23 {X : sx_T} {E : sv_E} {Q : State → Prop} {L : Nat} {xs : Nat → Int32} {u w : Nat} {σ : sv_G} {S : st_T} {i : Int} {tb9 : List ExceptionTableEntry} (C : sx_ok X E (DL tb9)) (hX : sv_X X E L xs) (hL9 : L ≤ 20000) (hu : u + 6 ≤ 601024 ∧ w + 36 ≤ 7293034) (hi : 0 ≤ i ∧ i + 6 ≤ L) (hS : StOK S) (hN : RN σ S) (hO : RO σ S) (kk : ∀ (σ9 : sv_G) (S9 : st_T), StOK S9 → RN σ9 S9 → RO σ9 S9 → SW X E Q (u + 6) (w + 36) 2377 (lsL i) [] σ9) : SW X E Q u w 1767 (lsL i) [] σ := by
  obtain ⟨a1, ha1⟩ : ∃ z : Int, z = (xs (i + 1).toNat).toInt := ⟨_, rfl⟩
  have r1 : -2147483648 ≤ a1 ∧ a1 ≤ 2147483647 := by rw [ha1]; exact i32_rng _
  obtain ⟨a2, ha2⟩ : ∃ z : Int, z = (xs (i + 2).toNat).toInt := ⟨_, rfl⟩
  have r2 : -2147483648 ≤ a2 ∧ a2 ≤ 2147483647 := by rw [ha2]; exact i32_rng _
  obtain ⟨a3, ha3⟩ : ∃ z : Int, z = (xs (i + 3).toNat).toInt := ⟨_, rfl⟩
  have r3 : -2147483648 ≤ a3 ∧ a3 ≤ 2147483647 := by rw [ha3]; exact i32_rng _
  refine s_aload_n C dL_law_1767 rfl ?_
  refine s_aloadS_n C dL_law_1768 rfl ?_
  refine s_iload C dL_law_1769 rfl ?_
  refine s_iconst C dL_law_1771 ?_
  refine s_iadd C dL_law_1772 ?_
  refine s_sld C hX (by omega) dL_law_1773 (by omega) ?_
  rw [← ha1]
  refine s_aloadS_n C dL_law_1774 rfl ?_
  refine s_iload C dL_law_1775 rfl ?_
  refine s_iconst C dL_law_1777 ?_
  refine s_iadd C dL_law_1778 ?_
  refine s_sld C hX (by omega) dL_law_1779 (by omega) ?_
  rw [← ha2]
  refine s_aloadS_n C dL_law_1780 rfl ?_
  refine s_iload C dL_law_1781 rfl ?_
  refine s_iconst C dL_law_1783 ?_
  refine s_iadd C dL_law_1784 ?_
  refine s_sld C hX (by omega) dL_law_1785 (by omega) ?_
  rw [← ha3]
  refine s_aload_n C dL_law_1786 rfl ?_
  refine s_cW5i (u2 := u + 3) (w2 := w + 18) C dL_law_1787 lkL_188 moL_settings mvL_settings (kL_settings hS hN r1 r2 r3) (Nat.le_of_ble_eq_true rfl) (Nat.le_of_ble_eq_true rfl) ⟨rfl, rfl⟩ ⟨(show u + 3 ≤ 601024 by omega), (show w + 18 ≤ 7293034 by omega)⟩ (fun k9 σ1 hp => ?_)
  have hop : 0 ≤ (op_settings S a1 a2 a3).1 ∧ (op_settings S a1 a2 a3).1 ≤ 3 := by unfold op_settings; dsimp only; (repeat' split) <;> omega
  obtain ⟨p1, p2, p3, p4⟩ := hp
  have hO1 := hO.out p4
  refine s_istore (ls2 := [some vS, some (vR 0), some (vR 195), some (vR 228), some (vI i), some (vI k9), none]) C dL_law_1790 (show 5 < 7 by decide) rfl ?_
  refine s_aload_n C dL_law_1792 rfl ?_
  refine s_aloadS_n C dL_law_1793 rfl ?_
  refine s_iload C dL_law_1794 rfl ?_
  refine s_iconst C dL_law_1796 ?_
  refine s_iadd C dL_law_1797 ?_
  refine s_sld C hX (by omega) dL_law_1798 (by omega) ?_
  rw [← ha1]
  refine s_aloadS_n C dL_law_1799 rfl ?_
  refine s_iload C dL_law_1800 rfl ?_
  refine s_iconst C dL_law_1802 ?_
  refine s_iadd C dL_law_1803 ?_
  refine s_sld C hX (by omega) dL_law_1804 (by omega) ?_
  rw [← ha2]
  refine s_aloadS_n C dL_law_1805 rfl ?_
  refine s_iload C dL_law_1806 rfl ?_
  refine s_iconst C dL_law_1808 ?_
  refine s_iadd C dL_law_1809 ?_
  refine s_sld C hX (by omega) dL_law_1810 (by omega) ?_
  rw [← ha3]
  refine s_cV3i C dL_law_1811 lkL_190 moX8_settings mvX8_settings (kX8_settings hS hO1 r1 r2 r3) sh_195 ⟨_, _, rfl⟩ (Nat.le_of_ble_eq_true rfl) (Nat.le_of_ble_eq_true rfl) rfl ⟨(show u + 3 ≤ 601024 by omega), (show w + 18 ≤ 7293034 by omega)⟩ (fun b9 σ2 hm => ?_)
  obtain ⟨m1, m2, m3, m4⟩ := hm
  refine s_istore (ls2 := [some vS, some (vR 0), some (vR 195), some (vR 228), some (vI i), some (vI k9), some (vI b9)]) C dL_law_1814 (show 6 < 7 by decide) rfl ?_
  refine s_aload_n C dL_law_1816 rfl ?_
  refine s_cV0i C dL_law_1817 lkL_111 moX8_thrown mvX8_thrown kX8_thrown sh_195 ⟨_, _, rfl⟩ (Nat.le_of_ble_eq_true rfl) (Nat.le_of_ble_eq_true rfl) rfl ⟨(show u + 3 ≤ 601024 by omega), (show w + 18 ≤ 7293034 by omega)⟩ (kpI (fun t9 ht => ?_))
  refine s_iload C dL_law_1820 rfl ?_
  refine s_icmp_eq (tgt := 1827) C dL_law_1822 (by decide) (by omega) (by omega) (fun c1 => ?_) (fun c1 => ?_)
  · refine s_iload C dL_law_1827 rfl ?_
    refine s_if_ne (tgt := 1844) C dL_law_1829 (by decide) (by omega) (fun c2 => ?_) (fun c2 => ?_)
    · refine s_goto (tgt := 2377) C dL_law_1844 (by decide) ?_
      refine s_weak (ls2 := lsL i) (sv_wk_c (sv_wk_c (sv_wk_c (sv_wk_c (sv_wk_c (sv_wk_n (sv_wk_n sv_wk_0))))))) ?_
      refine s_widen (by omega) (by omega) (kk σ2 S ?_ ?_ ?_)
      · exact hS
      · exact (p3 (by omega)).low hS m4
      · exact m3 (by omega)
    · refine s_aload_n C dL_law_1832 rfl ?_
      have h0 : (op_settings S a1 a2 a3).1 = 0 := by omega
      obtain ⟨q1, q2, q3⟩ := p2 h0
      obtain ⟨q4, q5⟩ := m2 h0
      refine s_iconst C dL_law_1833 ?_
      refine s_lald C dL_law_1834 sh_228 (by decide) (fun g9 => ?_)
      refine s_iload C dL_law_1835 rfl ?_
      refine s_asI (wrI_ofInt _) ?_
      refine s_i2l C dL_law_1837 (wrI_rng _) ?_
      refine s_lcmp C dL_law_1838 (by omega) (by have z := wrI_rng b9; omega) ?_
      refine s_if_eq (tgt := 1844) C dL_law_1839 (by decide) cmpL_rng (fun c3 => ?_) (fun c3 => ?_)
      · refine s_goto (tgt := 2377) C dL_law_1844 (by decide) ?_
        refine s_weak (ls2 := lsL i) (sv_wk_c (sv_wk_c (sv_wk_c (sv_wk_c (sv_wk_c (sv_wk_n (sv_wk_n sv_wk_0))))))) ?_
        refine s_widen (by omega) (by omega) (kk σ2 (op_settings S a1 a2 a3).2.2 ?_ ?_ ?_)
        · exact q3
        · exact q2.low q3 m4
        · exact q5
      · exact absurd (cmpL_eq.mpr (by rw [m4 228 0 (by decide), q1, q4])) c3
  · exfalso; omega
set_option maxRecDepth 100000 in
set_option maxHeartbeats 8000000 in
theorem law_24 {X : sx_T} {E : sv_E} {Q : State → Prop} {L : Nat} {xs : Nat → Int32} {u w : Nat} {σ : sv_G} {S : st_T} {i : Int} {tb9 : List ExceptionTableEntry} (C : sx_ok X E (DL tb9)) (hX : sv_X X E L xs) (hL9 : L ≤ 20000) (hu : u + 6 ≤ 601024 ∧ w + 36 ≤ 7293034) (hi : 0 ≤ i ∧ i + 6 ≤ L) (hS : StOK S) (hN : RN σ S) (hO : RO σ S) (kk : ∀ (σ9 : sv_G) (S9 : st_T), StOK S9 → RN σ9 S9 → RO σ9 S9 → SW X E Q (u + 6) (w + 36) 2377 (lsL i) [] σ9) : SW X E Q u w 1847 (lsL i) [] σ := by
  obtain ⟨a1, ha1⟩ : ∃ z : Int, z = (xs (i + 1).toNat).toInt := ⟨_, rfl⟩
  have r1 : -2147483648 ≤ a1 ∧ a1 ≤ 2147483647 := by rw [ha1]; exact i32_rng _
  obtain ⟨a2, ha2⟩ : ∃ z : Int, z = (xs (i + 2).toNat).toInt := ⟨_, rfl⟩
  have r2 : -2147483648 ≤ a2 ∧ a2 ≤ 2147483647 := by rw [ha2]; exact i32_rng _
  obtain ⟨a3, ha3⟩ : ∃ z : Int, z = (xs (i + 3).toNat).toInt := ⟨_, rfl⟩
  have r3 : -2147483648 ≤ a3 ∧ a3 ≤ 2147483647 := by rw [ha3]; exact i32_rng _
  refine s_aload_n C dL_law_1847 rfl ?_
  refine s_aloadS_n C dL_law_1848 rfl ?_
  refine s_iload C dL_law_1849 rfl ?_
  refine s_iconst C dL_law_1851 ?_
  refine s_iadd C dL_law_1852 ?_
  refine s_sld C hX (by omega) dL_law_1853 (by omega) ?_
  rw [← ha1]
  refine s_aloadS_n C dL_law_1854 rfl ?_
  refine s_iload C dL_law_1855 rfl ?_
  refine s_iconst C dL_law_1857 ?_
  refine s_iadd C dL_law_1858 ?_
  refine s_sld C hX (by omega) dL_law_1859 (by omega) ?_
  rw [← ha2]
  refine s_aloadS_n C dL_law_1860 rfl ?_
  refine s_iload C dL_law_1861 rfl ?_
  refine s_iconst C dL_law_1863 ?_
  refine s_iadd C dL_law_1864 ?_
  refine s_sld C hX (by omega) dL_law_1865 (by omega) ?_
  rw [← ha3]
  refine s_aload_n C dL_law_1866 rfl ?_
  refine s_cW5i (u2 := u + 4) (w2 := w + 24) C dL_law_1867 lkL_191 moL_learn mvL_learn (kL_learn hS hN r1 r2 r3) (Nat.le_of_ble_eq_true rfl) (Nat.le_of_ble_eq_true rfl) ⟨rfl, rfl⟩ ⟨(show u + 4 ≤ 601024 by omega), (show w + 24 ≤ 7293034 by omega)⟩ (fun k9 σ1 hp => ?_)
  have hop : 0 ≤ (op_learn S a1 a2 a3).1 ∧ (op_learn S a1 a2 a3).1 ≤ 3 := by unfold op_learn; dsimp only; (repeat' split) <;> omega
  obtain ⟨p1, p2, p3, p4⟩ := hp
  have hO1 := hO.out p4
  refine s_istore (ls2 := [some vS, some (vR 0), some (vR 195), some (vR 228), some (vI i), some (vI k9), none]) C dL_law_1870 (show 5 < 7 by decide) rfl ?_
  refine s_aload_n C dL_law_1872 rfl ?_
  refine s_aloadS_n C dL_law_1873 rfl ?_
  refine s_iload C dL_law_1874 rfl ?_
  refine s_iconst C dL_law_1876 ?_
  refine s_iadd C dL_law_1877 ?_
  refine s_sld C hX (by omega) dL_law_1878 (by omega) ?_
  rw [← ha1]
  refine s_aloadS_n C dL_law_1879 rfl ?_
  refine s_iload C dL_law_1880 rfl ?_
  refine s_iconst C dL_law_1882 ?_
  refine s_iadd C dL_law_1883 ?_
  refine s_sld C hX (by omega) dL_law_1884 (by omega) ?_
  rw [← ha2]
  refine s_aloadS_n C dL_law_1885 rfl ?_
  refine s_iload C dL_law_1886 rfl ?_
  refine s_iconst C dL_law_1888 ?_
  refine s_iadd C dL_law_1889 ?_
  refine s_sld C hX (by omega) dL_law_1890 (by omega) ?_
  rw [← ha3]
  refine s_cV3i C dL_law_1891 lkL_193 moX8_learn mvX8_learn (kX8_learn hS hO1 r1 r2 r3) sh_195 ⟨_, _, rfl⟩ (Nat.le_of_ble_eq_true rfl) (Nat.le_of_ble_eq_true rfl) rfl ⟨(show u + 4 ≤ 601024 by omega), (show w + 24 ≤ 7293034 by omega)⟩ (fun b9 σ2 hm => ?_)
  obtain ⟨m1, m2, m3, m4⟩ := hm
  refine s_istore (ls2 := [some vS, some (vR 0), some (vR 195), some (vR 228), some (vI i), some (vI k9), some (vI b9)]) C dL_law_1894 (show 6 < 7 by decide) rfl ?_
  refine s_aload_n C dL_law_1896 rfl ?_
  refine s_cV0i C dL_law_1897 lkL_111 moX8_thrown mvX8_thrown kX8_thrown sh_195 ⟨_, _, rfl⟩ (Nat.le_of_ble_eq_true rfl) (Nat.le_of_ble_eq_true rfl) rfl ⟨(show u + 4 ≤ 601024 by omega), (show w + 24 ≤ 7293034 by omega)⟩ (kpI (fun t9 ht => ?_))
  refine s_iload C dL_law_1900 rfl ?_
  refine s_icmp_eq (tgt := 1907) C dL_law_1902 (by decide) (by omega) (by omega) (fun c1 => ?_) (fun c1 => ?_)
  · refine s_iload C dL_law_1907 rfl ?_
    refine s_if_ne (tgt := 1924) C dL_law_1909 (by decide) (by omega) (fun c2 => ?_) (fun c2 => ?_)
    · refine s_goto (tgt := 2377) C dL_law_1924 (by decide) ?_
      refine s_weak (ls2 := lsL i) (sv_wk_c (sv_wk_c (sv_wk_c (sv_wk_c (sv_wk_c (sv_wk_n (sv_wk_n sv_wk_0))))))) ?_
      refine s_widen (by omega) (by omega) (kk σ2 S ?_ ?_ ?_)
      · exact hS
      · exact (p3 (by omega)).low hS m4
      · exact m3 (by omega)
    · refine s_aload_n C dL_law_1912 rfl ?_
      have h0 : (op_learn S a1 a2 a3).1 = 0 := by omega
      obtain ⟨q1, q2, q3⟩ := p2 h0
      obtain ⟨q4, q5⟩ := m2 h0
      refine s_iconst C dL_law_1913 ?_
      refine s_lald C dL_law_1914 sh_228 (by decide) (fun g9 => ?_)
      refine s_iload C dL_law_1915 rfl ?_
      refine s_asI (wrI_ofInt _) ?_
      refine s_i2l C dL_law_1917 (wrI_rng _) ?_
      refine s_lcmp C dL_law_1918 (by omega) (by have z := wrI_rng b9; omega) ?_
      refine s_if_eq (tgt := 1924) C dL_law_1919 (by decide) cmpL_rng (fun c3 => ?_) (fun c3 => ?_)
      · refine s_goto (tgt := 2377) C dL_law_1924 (by decide) ?_
        refine s_weak (ls2 := lsL i) (sv_wk_c (sv_wk_c (sv_wk_c (sv_wk_c (sv_wk_c (sv_wk_n (sv_wk_n sv_wk_0))))))) ?_
        refine s_widen (by omega) (by omega) (kk σ2 (op_learn S a1 a2 a3).2.2 ?_ ?_ ?_)
        · exact q3
        · exact q2.low q3 m4
        · exact q5
      · exact absurd (cmpL_eq.mpr (by rw [m4 228 0 (by decide), q1, q4])) c3
  · exfalso; omega
set_option maxRecDepth 100000 in
set_option maxHeartbeats 8000000 in
theorem law_25 {X : sx_T} {E : sv_E} {Q : State → Prop} {L : Nat} {xs : Nat → Int32} {u w : Nat} {σ : sv_G} {S : st_T} {i : Int} {tb9 : List ExceptionTableEntry} (C : sx_ok X E (DL tb9)) (hX : sv_X X E L xs) (hL9 : L ≤ 20000) (hu : u + 6 ≤ 601024 ∧ w + 36 ≤ 7293034) (hi : 0 ≤ i ∧ i + 6 ≤ L) (hS : StOK S) (hN : RN σ S) (hO : RO σ S) (kk : ∀ (σ9 : sv_G) (S9 : st_T), StOK S9 → RN σ9 S9 → RO σ9 S9 → SW X E Q (u + 6) (w + 36) 2377 (lsL i) [] σ9) : SW X E Q u w 1927 (lsL i) [] σ := by
  obtain ⟨a1, ha1⟩ : ∃ z : Int, z = (xs (i + 1).toNat).toInt := ⟨_, rfl⟩
  have r1 : -2147483648 ≤ a1 ∧ a1 ≤ 2147483647 := by rw [ha1]; exact i32_rng _
  obtain ⟨a2, ha2⟩ : ∃ z : Int, z = (xs (i + 2).toNat).toInt := ⟨_, rfl⟩
  have r2 : -2147483648 ≤ a2 ∧ a2 ≤ 2147483647 := by rw [ha2]; exact i32_rng _
  obtain ⟨a3, ha3⟩ : ∃ z : Int, z = (xs (i + 3).toNat).toInt := ⟨_, rfl⟩
  have r3 : -2147483648 ≤ a3 ∧ a3 ≤ 2147483647 := by rw [ha3]; exact i32_rng _
  obtain ⟨a4, ha4⟩ : ∃ z : Int, z = (xs (i + 4).toNat).toInt := ⟨_, rfl⟩
  have r4 : -2147483648 ≤ a4 ∧ a4 ≤ 2147483647 := by rw [ha4]; exact i32_rng _
  refine s_aload_n C dL_law_1927 rfl ?_
  refine s_aloadS_n C dL_law_1928 rfl ?_
  refine s_iload C dL_law_1929 rfl ?_
  refine s_iconst C dL_law_1931 ?_
  refine s_iadd C dL_law_1932 ?_
  refine s_sld C hX (by omega) dL_law_1933 (by omega) ?_
  rw [← ha1]
  refine s_aloadS_n C dL_law_1934 rfl ?_
  refine s_iload C dL_law_1935 rfl ?_
  refine s_iconst C dL_law_1937 ?_
  refine s_iadd C dL_law_1938 ?_
  refine s_sld C hX (by omega) dL_law_1939 (by omega) ?_
  rw [← ha2]
  refine s_aloadS_n C dL_law_1940 rfl ?_
  refine s_iload C dL_law_1941 rfl ?_
  refine s_iconst C dL_law_1943 ?_
  refine s_iadd C dL_law_1944 ?_
  refine s_sld C hX (by omega) dL_law_1945 (by omega) ?_
  rw [← ha3]
  refine s_aloadS_n C dL_law_1946 rfl ?_
  refine s_iload C dL_law_1947 rfl ?_
  refine s_iconst C dL_law_1949 ?_
  refine s_iadd C dL_law_1950 ?_
  refine s_sld C hX (by omega) dL_law_1951 (by omega) ?_
  rw [← ha4]
  refine s_aload_n C dL_law_1952 rfl ?_
  refine s_cW6i (u2 := u + 4) (w2 := w + 24) C dL_law_1953 lkL_194 moL_askNumber mvL_askNumber (kL_askNumber hS hN r1 r2 r3 r4) (Nat.le_of_ble_eq_true rfl) (Nat.le_of_ble_eq_true rfl) ⟨rfl, rfl⟩ ⟨(show u + 4 ≤ 601024 by omega), (show w + 24 ≤ 7293034 by omega)⟩ (fun k9 σ1 hp => ?_)
  have hop : 0 ≤ (op_askNumber S a1 a2 a3 a4).1 ∧ (op_askNumber S a1 a2 a3 a4).1 ≤ 3 := by unfold op_askNumber; dsimp only; (repeat' split) <;> omega
  obtain ⟨p1, p2, p3, p4⟩ := hp
  have hO1 := hO.out p4
  refine s_istore (ls2 := [some vS, some (vR 0), some (vR 195), some (vR 228), some (vI i), some (vI k9), none]) C dL_law_1956 (show 5 < 7 by decide) rfl ?_
  refine s_aload_n C dL_law_1958 rfl ?_
  refine s_aloadS_n C dL_law_1959 rfl ?_
  refine s_iload C dL_law_1960 rfl ?_
  refine s_iconst C dL_law_1962 ?_
  refine s_iadd C dL_law_1963 ?_
  refine s_sld C hX (by omega) dL_law_1964 (by omega) ?_
  rw [← ha1]
  refine s_aloadS_n C dL_law_1965 rfl ?_
  refine s_iload C dL_law_1966 rfl ?_
  refine s_iconst C dL_law_1968 ?_
  refine s_iadd C dL_law_1969 ?_
  refine s_sld C hX (by omega) dL_law_1970 (by omega) ?_
  rw [← ha2]
  refine s_aloadS_n C dL_law_1971 rfl ?_
  refine s_iload C dL_law_1972 rfl ?_
  refine s_iconst C dL_law_1974 ?_
  refine s_iadd C dL_law_1975 ?_
  refine s_sld C hX (by omega) dL_law_1976 (by omega) ?_
  rw [← ha3]
  refine s_aloadS_n C dL_law_1977 rfl ?_
  refine s_iload C dL_law_1978 rfl ?_
  refine s_iconst C dL_law_1980 ?_
  refine s_iadd C dL_law_1981 ?_
  refine s_sld C hX (by omega) dL_law_1982 (by omega) ?_
  rw [← ha4]
  refine s_cV4i C dL_law_1983 lkL_196 moX8_askNumber mvX8_askNumber (kX8_askNumber hS hO1 r1 r2 r3 r4) sh_195 ⟨_, _, rfl⟩ (Nat.le_of_ble_eq_true rfl) (Nat.le_of_ble_eq_true rfl) rfl ⟨(show u + 4 ≤ 601024 by omega), (show w + 24 ≤ 7293034 by omega)⟩ (fun b9 σ2 hm => ?_)
  obtain ⟨m1, m2, m3, m4⟩ := hm
  refine s_istore (ls2 := [some vS, some (vR 0), some (vR 195), some (vR 228), some (vI i), some (vI k9), some (vI b9)]) C dL_law_1986 (show 6 < 7 by decide) rfl ?_
  refine s_aload_n C dL_law_1988 rfl ?_
  refine s_cV0i C dL_law_1989 lkL_111 moX8_thrown mvX8_thrown kX8_thrown sh_195 ⟨_, _, rfl⟩ (Nat.le_of_ble_eq_true rfl) (Nat.le_of_ble_eq_true rfl) rfl ⟨(show u + 4 ≤ 601024 by omega), (show w + 24 ≤ 7293034 by omega)⟩ (kpI (fun t9 ht => ?_))
  refine s_iload C dL_law_1992 rfl ?_
  refine s_icmp_eq (tgt := 1999) C dL_law_1994 (by decide) (by omega) (by omega) (fun c1 => ?_) (fun c1 => ?_)
  · refine s_iload C dL_law_1999 rfl ?_
    refine s_if_ne (tgt := 2016) C dL_law_2001 (by decide) (by omega) (fun c2 => ?_) (fun c2 => ?_)
    · refine s_goto (tgt := 2377) C dL_law_2016 (by decide) ?_
      refine s_weak (ls2 := lsL i) (sv_wk_c (sv_wk_c (sv_wk_c (sv_wk_c (sv_wk_c (sv_wk_n (sv_wk_n sv_wk_0))))))) ?_
      refine s_widen (by omega) (by omega) (kk σ2 S ?_ ?_ ?_)
      · exact hS
      · exact (p3 (by omega)).low hS m4
      · exact m3 (by omega)
    · refine s_aload_n C dL_law_2004 rfl ?_
      have h0 : (op_askNumber S a1 a2 a3 a4).1 = 0 := by omega
      obtain ⟨q1, q2, q3⟩ := p2 h0
      obtain ⟨q4, q5⟩ := m2 h0
      refine s_iconst C dL_law_2005 ?_
      refine s_lald C dL_law_2006 sh_228 (by decide) (fun g9 => ?_)
      refine s_iload C dL_law_2007 rfl ?_
      refine s_asI (wrI_ofInt _) ?_
      refine s_i2l C dL_law_2009 (wrI_rng _) ?_
      refine s_lcmp C dL_law_2010 (by omega) (by have z := wrI_rng b9; omega) ?_
      refine s_if_eq (tgt := 2016) C dL_law_2011 (by decide) cmpL_rng (fun c3 => ?_) (fun c3 => ?_)
      · refine s_goto (tgt := 2377) C dL_law_2016 (by decide) ?_
        refine s_weak (ls2 := lsL i) (sv_wk_c (sv_wk_c (sv_wk_c (sv_wk_c (sv_wk_c (sv_wk_n (sv_wk_n sv_wk_0))))))) ?_
        refine s_widen (by omega) (by omega) (kk σ2 (op_askNumber S a1 a2 a3 a4).2.2 ?_ ?_ ?_)
        · exact q3
        · exact q2.low q3 m4
        · exact q5
      · exact absurd (cmpL_eq.mpr (by rw [m4 228 0 (by decide), q1, q4])) c3
  · exfalso; omega
set_option maxRecDepth 100000 in
set_option maxHeartbeats 8000000 in
theorem law_26 {X : sx_T} {E : sv_E} {Q : State → Prop} {L : Nat} {xs : Nat → Int32} {u w : Nat} {σ : sv_G} {S : st_T} {i : Int} {tb9 : List ExceptionTableEntry} (C : sx_ok X E (DL tb9)) (hX : sv_X X E L xs) (hL9 : L ≤ 20000) (hu : u + 6 ≤ 601024 ∧ w + 36 ≤ 7293034) (hi : 0 ≤ i ∧ i + 6 ≤ L) (hS : StOK S) (hN : RN σ S) (hO : RO σ S) (kk : ∀ (σ9 : sv_G) (S9 : st_T), StOK S9 → RN σ9 S9 → RO σ9 S9 → SW X E Q (u + 6) (w + 36) 2377 (lsL i) [] σ9) : SW X E Q u w 2019 (lsL i) [] σ := by
  obtain ⟨a1, ha1⟩ : ∃ z : Int, z = (xs (i + 1).toNat).toInt := ⟨_, rfl⟩
  have r1 : -2147483648 ≤ a1 ∧ a1 ≤ 2147483647 := by rw [ha1]; exact i32_rng _
  obtain ⟨a2, ha2⟩ : ∃ z : Int, z = (xs (i + 2).toNat).toInt := ⟨_, rfl⟩
  have r2 : -2147483648 ≤ a2 ∧ a2 ≤ 2147483647 := by rw [ha2]; exact i32_rng _
  obtain ⟨a3, ha3⟩ : ∃ z : Int, z = (xs (i + 3).toNat).toInt := ⟨_, rfl⟩
  have r3 : -2147483648 ≤ a3 ∧ a3 ≤ 2147483647 := by rw [ha3]; exact i32_rng _
  refine s_aload_n C dL_law_2019 rfl ?_
  refine s_aloadS_n C dL_law_2020 rfl ?_
  refine s_iload C dL_law_2021 rfl ?_
  refine s_iconst C dL_law_2023 ?_
  refine s_iadd C dL_law_2024 ?_
  refine s_sld C hX (by omega) dL_law_2025 (by omega) ?_
  rw [← ha1]
  refine s_aloadS_n C dL_law_2026 rfl ?_
  refine s_iload C dL_law_2027 rfl ?_
  refine s_iconst C dL_law_2029 ?_
  refine s_iadd C dL_law_2030 ?_
  refine s_sld C hX (by omega) dL_law_2031 (by omega) ?_
  rw [← ha2]
  refine s_aloadS_n C dL_law_2032 rfl ?_
  refine s_iload C dL_law_2033 rfl ?_
  refine s_iconst C dL_law_2035 ?_
  refine s_iadd C dL_law_2036 ?_
  refine s_sld C hX (by omega) dL_law_2037 (by omega) ?_
  rw [← ha3]
  refine s_aload_n C dL_law_2038 rfl ?_
  refine s_cW5i (u2 := u + 3) (w2 := w + 18) C dL_law_2039 lkL_197 moL_baseTold mvL_baseTold (kL_baseTold hS hN r1 r2 r3) (Nat.le_of_ble_eq_true rfl) (Nat.le_of_ble_eq_true rfl) ⟨rfl, rfl⟩ ⟨(show u + 3 ≤ 601024 by omega), (show w + 18 ≤ 7293034 by omega)⟩ (fun k9 σ1 hp => ?_)
  have hop : 0 ≤ (op_baseTold S a1 a2 a3).1 ∧ (op_baseTold S a1 a2 a3).1 ≤ 3 := by unfold op_baseTold; dsimp only; (repeat' split) <;> omega
  obtain ⟨p1, p2, p3, p4⟩ := hp
  have hO1 := hO.out p4
  refine s_istore (ls2 := [some vS, some (vR 0), some (vR 195), some (vR 228), some (vI i), some (vI k9), none]) C dL_law_2042 (show 5 < 7 by decide) rfl ?_
  refine s_aload_n C dL_law_2044 rfl ?_
  refine s_aloadS_n C dL_law_2045 rfl ?_
  refine s_iload C dL_law_2046 rfl ?_
  refine s_iconst C dL_law_2048 ?_
  refine s_iadd C dL_law_2049 ?_
  refine s_sld C hX (by omega) dL_law_2050 (by omega) ?_
  rw [← ha1]
  refine s_aloadS_n C dL_law_2051 rfl ?_
  refine s_iload C dL_law_2052 rfl ?_
  refine s_iconst C dL_law_2054 ?_
  refine s_iadd C dL_law_2055 ?_
  refine s_sld C hX (by omega) dL_law_2056 (by omega) ?_
  rw [← ha2]
  refine s_aloadS_n C dL_law_2057 rfl ?_
  refine s_iload C dL_law_2058 rfl ?_
  refine s_iconst C dL_law_2060 ?_
  refine s_iadd C dL_law_2061 ?_
  refine s_sld C hX (by omega) dL_law_2062 (by omega) ?_
  rw [← ha3]
  refine s_cV3i C dL_law_2063 lkL_199 moX8_baseTold mvX8_baseTold (kX8_baseTold hS hO1 r1 r2 r3) sh_195 ⟨_, _, rfl⟩ (Nat.le_of_ble_eq_true rfl) (Nat.le_of_ble_eq_true rfl) rfl ⟨(show u + 3 ≤ 601024 by omega), (show w + 18 ≤ 7293034 by omega)⟩ (fun b9 σ2 hm => ?_)
  obtain ⟨m1, m2, m3, m4⟩ := hm
  refine s_istore (ls2 := [some vS, some (vR 0), some (vR 195), some (vR 228), some (vI i), some (vI k9), some (vI b9)]) C dL_law_2066 (show 6 < 7 by decide) rfl ?_
  refine s_aload_n C dL_law_2068 rfl ?_
  refine s_cV0i C dL_law_2069 lkL_111 moX8_thrown mvX8_thrown kX8_thrown sh_195 ⟨_, _, rfl⟩ (Nat.le_of_ble_eq_true rfl) (Nat.le_of_ble_eq_true rfl) rfl ⟨(show u + 3 ≤ 601024 by omega), (show w + 18 ≤ 7293034 by omega)⟩ (kpI (fun t9 ht => ?_))
  refine s_iload C dL_law_2072 rfl ?_
  refine s_icmp_eq (tgt := 2079) C dL_law_2074 (by decide) (by omega) (by omega) (fun c1 => ?_) (fun c1 => ?_)
  · refine s_iload C dL_law_2079 rfl ?_
    refine s_if_ne (tgt := 2096) C dL_law_2081 (by decide) (by omega) (fun c2 => ?_) (fun c2 => ?_)
    · refine s_goto (tgt := 2377) C dL_law_2096 (by decide) ?_
      refine s_weak (ls2 := lsL i) (sv_wk_c (sv_wk_c (sv_wk_c (sv_wk_c (sv_wk_c (sv_wk_n (sv_wk_n sv_wk_0))))))) ?_
      refine s_widen (by omega) (by omega) (kk σ2 S ?_ ?_ ?_)
      · exact hS
      · exact (p3 (by omega)).low hS m4
      · exact m3 (by omega)
    · refine s_aload_n C dL_law_2084 rfl ?_
      have h0 : (op_baseTold S a1 a2 a3).1 = 0 := by omega
      obtain ⟨q1, q2, q3⟩ := p2 h0
      obtain ⟨q4, q5⟩ := m2 h0
      refine s_iconst C dL_law_2085 ?_
      refine s_lald C dL_law_2086 sh_228 (by decide) (fun g9 => ?_)
      refine s_iload C dL_law_2087 rfl ?_
      refine s_asI (wrI_ofInt _) ?_
      refine s_i2l C dL_law_2089 (wrI_rng _) ?_
      refine s_lcmp C dL_law_2090 (by omega) (by have z := wrI_rng b9; omega) ?_
      refine s_if_eq (tgt := 2096) C dL_law_2091 (by decide) cmpL_rng (fun c3 => ?_) (fun c3 => ?_)
      · refine s_goto (tgt := 2377) C dL_law_2096 (by decide) ?_
        refine s_weak (ls2 := lsL i) (sv_wk_c (sv_wk_c (sv_wk_c (sv_wk_c (sv_wk_c (sv_wk_n (sv_wk_n sv_wk_0))))))) ?_
        refine s_widen (by omega) (by omega) (kk σ2 (op_baseTold S a1 a2 a3).2.2 ?_ ?_ ?_)
        · exact q3
        · exact q2.low q3 m4
        · exact q5
      · exact absurd (cmpL_eq.mpr (by rw [m4 228 0 (by decide), q1, q4])) c3
  · exfalso; omega
set_option maxRecDepth 100000 in
set_option maxHeartbeats 8000000 in
theorem law_27 {X : sx_T} {E : sv_E} {Q : State → Prop} {L : Nat} {xs : Nat → Int32} {u w : Nat} {σ : sv_G} {S : st_T} {i : Int} {tb9 : List ExceptionTableEntry} (C : sx_ok X E (DL tb9)) (hX : sv_X X E L xs) (hL9 : L ≤ 20000) (hu : u + 6 ≤ 601024 ∧ w + 36 ≤ 7293034) (hi : 0 ≤ i ∧ i + 6 ≤ L) (hS : StOK S) (hN : RN σ S) (hO : RO σ S) (kk : ∀ (σ9 : sv_G) (S9 : st_T), StOK S9 → RN σ9 S9 → RO σ9 S9 → SW X E Q (u + 6) (w + 36) 2377 (lsL i) [] σ9) : SW X E Q u w 2099 (lsL i) [] σ := by
  obtain ⟨a1, ha1⟩ : ∃ z : Int, z = (xs (i + 1).toNat).toInt := ⟨_, rfl⟩
  have r1 : -2147483648 ≤ a1 ∧ a1 ≤ 2147483647 := by rw [ha1]; exact i32_rng _
  obtain ⟨a2, ha2⟩ : ∃ z : Int, z = (xs (i + 2).toNat).toInt := ⟨_, rfl⟩
  have r2 : -2147483648 ≤ a2 ∧ a2 ≤ 2147483647 := by rw [ha2]; exact i32_rng _
  refine s_aload_n C dL_law_2099 rfl ?_
  refine s_aloadS_n C dL_law_2100 rfl ?_
  refine s_iload C dL_law_2101 rfl ?_
  refine s_iconst C dL_law_2103 ?_
  refine s_iadd C dL_law_2104 ?_
  refine s_sld C hX (by omega) dL_law_2105 (by omega) ?_
  rw [← ha1]
  refine s_aloadS_n C dL_law_2106 rfl ?_
  refine s_iload C dL_law_2107 rfl ?_
  refine s_iconst C dL_law_2109 ?_
  refine s_iadd C dL_law_2110 ?_
  refine s_sld C hX (by omega) dL_law_2111 (by omega) ?_
  rw [← ha2]
  refine s_aload_n C dL_law_2112 rfl ?_
  refine s_cW4i (u2 := u + 2) (w2 := w + 12) C dL_law_2113 lkL_200 moL_numberOf mvL_numberOf (kL_numberOf hS hN r1 r2) (Nat.le_of_ble_eq_true rfl) (Nat.le_of_ble_eq_true rfl) ⟨rfl, rfl⟩ ⟨(show u + 2 ≤ 601024 by omega), (show w + 12 ≤ 7293034 by omega)⟩ (fun k9 σ1 hp => ?_)
  have hop : 0 ≤ (op_numberOf S a1 a2).1 ∧ (op_numberOf S a1 a2).1 ≤ 3 := by unfold op_numberOf; dsimp only; (repeat' split) <;> omega
  obtain ⟨p1, p2, p3, p4⟩ := hp
  have hO1 := hO.out p4
  refine s_istore (ls2 := [some vS, some (vR 0), some (vR 195), some (vR 228), some (vI i), some (vI k9), none]) C dL_law_2116 (show 5 < 7 by decide) rfl ?_
  refine s_aload_n C dL_law_2118 rfl ?_
  refine s_aloadS_n C dL_law_2119 rfl ?_
  refine s_iload C dL_law_2120 rfl ?_
  refine s_iconst C dL_law_2122 ?_
  refine s_iadd C dL_law_2123 ?_
  refine s_sld C hX (by omega) dL_law_2124 (by omega) ?_
  rw [← ha1]
  refine s_aloadS_n C dL_law_2125 rfl ?_
  refine s_iload C dL_law_2126 rfl ?_
  refine s_iconst C dL_law_2128 ?_
  refine s_iadd C dL_law_2129 ?_
  refine s_sld C hX (by omega) dL_law_2130 (by omega) ?_
  rw [← ha2]
  refine s_cV2i C dL_law_2131 lkL_202 moX8_numberOf mvX8_numberOf (kX8_numberOf hS hO1 r1 r2) sh_195 ⟨_, _, rfl⟩ (Nat.le_of_ble_eq_true rfl) (Nat.le_of_ble_eq_true rfl) rfl ⟨(show u + 2 ≤ 601024 by omega), (show w + 12 ≤ 7293034 by omega)⟩ (fun b9 σ2 hm => ?_)
  obtain ⟨m1, m2, m3, m4⟩ := hm
  refine s_istore (ls2 := [some vS, some (vR 0), some (vR 195), some (vR 228), some (vI i), some (vI k9), some (vI b9)]) C dL_law_2134 (show 6 < 7 by decide) rfl ?_
  refine s_aload_n C dL_law_2136 rfl ?_
  refine s_cV0i C dL_law_2137 lkL_111 moX8_thrown mvX8_thrown kX8_thrown sh_195 ⟨_, _, rfl⟩ (Nat.le_of_ble_eq_true rfl) (Nat.le_of_ble_eq_true rfl) rfl ⟨(show u + 2 ≤ 601024 by omega), (show w + 12 ≤ 7293034 by omega)⟩ (kpI (fun t9 ht => ?_))
  refine s_iload C dL_law_2140 rfl ?_
  refine s_icmp_eq (tgt := 2147) C dL_law_2142 (by decide) (by omega) (by omega) (fun c1 => ?_) (fun c1 => ?_)
  · refine s_iload C dL_law_2147 rfl ?_
    refine s_if_ne (tgt := 2164) C dL_law_2149 (by decide) (by omega) (fun c2 => ?_) (fun c2 => ?_)
    · refine s_goto (tgt := 2377) C dL_law_2164 (by decide) ?_
      refine s_weak (ls2 := lsL i) (sv_wk_c (sv_wk_c (sv_wk_c (sv_wk_c (sv_wk_c (sv_wk_n (sv_wk_n sv_wk_0))))))) ?_
      refine s_widen (by omega) (by omega) (kk σ2 S ?_ ?_ ?_)
      · exact hS
      · exact (p3 (by omega)).low hS m4
      · exact m3 (by omega)
    · refine s_aload_n C dL_law_2152 rfl ?_
      have h0 : (op_numberOf S a1 a2).1 = 0 := by omega
      obtain ⟨q1, q2, q3⟩ := p2 h0
      obtain ⟨q4, q5⟩ := m2 h0
      refine s_iconst C dL_law_2153 ?_
      refine s_lald C dL_law_2154 sh_228 (by decide) (fun g9 => ?_)
      refine s_iload C dL_law_2155 rfl ?_
      refine s_asI (wrI_ofInt _) ?_
      refine s_i2l C dL_law_2157 (wrI_rng _) ?_
      refine s_lcmp C dL_law_2158 (by omega) (by have z := wrI_rng b9; omega) ?_
      refine s_if_eq (tgt := 2164) C dL_law_2159 (by decide) cmpL_rng (fun c3 => ?_) (fun c3 => ?_)
      · refine s_goto (tgt := 2377) C dL_law_2164 (by decide) ?_
        refine s_weak (ls2 := lsL i) (sv_wk_c (sv_wk_c (sv_wk_c (sv_wk_c (sv_wk_c (sv_wk_n (sv_wk_n sv_wk_0))))))) ?_
        refine s_widen (by omega) (by omega) (kk σ2 (op_numberOf S a1 a2).2.2 ?_ ?_ ?_)
        · exact q3
        · exact q2.low q3 m4
        · exact q5
      · exact absurd (cmpL_eq.mpr (by rw [m4 228 0 (by decide), q1, q4])) c3
  · exfalso; omega
set_option maxRecDepth 100000 in
set_option maxHeartbeats 8000000 in
theorem law_28 {X : sx_T} {E : sv_E} {Q : State → Prop} {L : Nat} {xs : Nat → Int32} {u w : Nat} {σ : sv_G} {S : st_T} {i : Int} {tb9 : List ExceptionTableEntry} (C : sx_ok X E (DL tb9)) (hX : sv_X X E L xs) (hL9 : L ≤ 20000) (hu : u + 6 ≤ 601024 ∧ w + 36 ≤ 7293034) (hi : 0 ≤ i ∧ i + 6 ≤ L) (hS : StOK S) (hN : RN σ S) (hO : RO σ S) (kk : ∀ (σ9 : sv_G) (S9 : st_T), StOK S9 → RN σ9 S9 → RO σ9 S9 → SW X E Q (u + 6) (w + 36) 2377 (lsL i) [] σ9) : SW X E Q u w 2167 (lsL i) [] σ := by
  obtain ⟨a1, ha1⟩ : ∃ z : Int, z = (xs (i + 1).toNat).toInt := ⟨_, rfl⟩
  have r1 : -2147483648 ≤ a1 ∧ a1 ≤ 2147483647 := by rw [ha1]; exact i32_rng _
  obtain ⟨a2, ha2⟩ : ∃ z : Int, z = (xs (i + 2).toNat).toInt := ⟨_, rfl⟩
  have r2 : -2147483648 ≤ a2 ∧ a2 ≤ 2147483647 := by rw [ha2]; exact i32_rng _
  refine s_aload_n C dL_law_2167 rfl ?_
  refine s_aloadS_n C dL_law_2168 rfl ?_
  refine s_iload C dL_law_2169 rfl ?_
  refine s_iconst C dL_law_2171 ?_
  refine s_iadd C dL_law_2172 ?_
  refine s_sld C hX (by omega) dL_law_2173 (by omega) ?_
  rw [← ha1]
  refine s_aloadS_n C dL_law_2174 rfl ?_
  refine s_iload C dL_law_2175 rfl ?_
  refine s_iconst C dL_law_2177 ?_
  refine s_iadd C dL_law_2178 ?_
  refine s_sld C hX (by omega) dL_law_2179 (by omega) ?_
  rw [← ha2]
  refine s_aload_n C dL_law_2180 rfl ?_
  refine s_cW4i (u2 := u + 2) (w2 := w + 12) C dL_law_2181 lkL_203 moL_cord mvL_cord (kL_cord hS hN r1 r2) (Nat.le_of_ble_eq_true rfl) (Nat.le_of_ble_eq_true rfl) ⟨rfl, rfl⟩ ⟨(show u + 2 ≤ 601024 by omega), (show w + 12 ≤ 7293034 by omega)⟩ (fun k9 σ1 hp => ?_)
  have hop : 0 ≤ (op_cord S a1 a2).1 ∧ (op_cord S a1 a2).1 ≤ 3 := by unfold op_cord; dsimp only; (repeat' split) <;> omega
  obtain ⟨p1, p2, p3, p4⟩ := hp
  have hO1 := hO.out p4
  refine s_istore (ls2 := [some vS, some (vR 0), some (vR 195), some (vR 228), some (vI i), some (vI k9), none]) C dL_law_2184 (show 5 < 7 by decide) rfl ?_
  refine s_aload_n C dL_law_2186 rfl ?_
  refine s_aloadS_n C dL_law_2187 rfl ?_
  refine s_iload C dL_law_2188 rfl ?_
  refine s_iconst C dL_law_2190 ?_
  refine s_iadd C dL_law_2191 ?_
  refine s_sld C hX (by omega) dL_law_2192 (by omega) ?_
  rw [← ha1]
  refine s_aloadS_n C dL_law_2193 rfl ?_
  refine s_iload C dL_law_2194 rfl ?_
  refine s_iconst C dL_law_2196 ?_
  refine s_iadd C dL_law_2197 ?_
  refine s_sld C hX (by omega) dL_law_2198 (by omega) ?_
  rw [← ha2]
  refine s_cV2i C dL_law_2199 lkL_205 moX8_cord mvX8_cord (kX8_cord hS hO1 r1 r2) sh_195 ⟨_, _, rfl⟩ (Nat.le_of_ble_eq_true rfl) (Nat.le_of_ble_eq_true rfl) rfl ⟨(show u + 2 ≤ 601024 by omega), (show w + 12 ≤ 7293034 by omega)⟩ (fun b9 σ2 hm => ?_)
  obtain ⟨m1, m2, m3, m4⟩ := hm
  refine s_istore (ls2 := [some vS, some (vR 0), some (vR 195), some (vR 228), some (vI i), some (vI k9), some (vI b9)]) C dL_law_2202 (show 6 < 7 by decide) rfl ?_
  refine s_aload_n C dL_law_2204 rfl ?_
  refine s_cV0i C dL_law_2205 lkL_111 moX8_thrown mvX8_thrown kX8_thrown sh_195 ⟨_, _, rfl⟩ (Nat.le_of_ble_eq_true rfl) (Nat.le_of_ble_eq_true rfl) rfl ⟨(show u + 2 ≤ 601024 by omega), (show w + 12 ≤ 7293034 by omega)⟩ (kpI (fun t9 ht => ?_))
  refine s_iload C dL_law_2208 rfl ?_
  refine s_icmp_eq (tgt := 2215) C dL_law_2210 (by decide) (by omega) (by omega) (fun c1 => ?_) (fun c1 => ?_)
  · refine s_iload C dL_law_2215 rfl ?_
    refine s_if_ne (tgt := 2232) C dL_law_2217 (by decide) (by omega) (fun c2 => ?_) (fun c2 => ?_)
    · refine s_goto (tgt := 2377) C dL_law_2232 (by decide) ?_
      refine s_weak (ls2 := lsL i) (sv_wk_c (sv_wk_c (sv_wk_c (sv_wk_c (sv_wk_c (sv_wk_n (sv_wk_n sv_wk_0))))))) ?_
      refine s_widen (by omega) (by omega) (kk σ2 S ?_ ?_ ?_)
      · exact hS
      · exact (p3 (by omega)).low hS m4
      · exact m3 (by omega)
    · refine s_aload_n C dL_law_2220 rfl ?_
      have h0 : (op_cord S a1 a2).1 = 0 := by omega
      obtain ⟨q1, q2, q3⟩ := p2 h0
      obtain ⟨q4, q5⟩ := m2 h0
      refine s_iconst C dL_law_2221 ?_
      refine s_lald C dL_law_2222 sh_228 (by decide) (fun g9 => ?_)
      refine s_iload C dL_law_2223 rfl ?_
      refine s_asI (wrI_ofInt _) ?_
      refine s_i2l C dL_law_2225 (wrI_rng _) ?_
      refine s_lcmp C dL_law_2226 (by omega) (by have z := wrI_rng b9; omega) ?_
      refine s_if_eq (tgt := 2232) C dL_law_2227 (by decide) cmpL_rng (fun c3 => ?_) (fun c3 => ?_)
      · refine s_goto (tgt := 2377) C dL_law_2232 (by decide) ?_
        refine s_weak (ls2 := lsL i) (sv_wk_c (sv_wk_c (sv_wk_c (sv_wk_c (sv_wk_c (sv_wk_n (sv_wk_n sv_wk_0))))))) ?_
        refine s_widen (by omega) (by omega) (kk σ2 (op_cord S a1 a2).2.2 ?_ ?_ ?_)
        · exact q3
        · exact q2.low q3 m4
        · exact q5
      · exact absurd (cmpL_eq.mpr (by rw [m4 228 0 (by decide), q1, q4])) c3
  · exfalso; omega
set_option maxRecDepth 100000 in
set_option maxHeartbeats 8000000 in
theorem law_29 {X : sx_T} {E : sv_E} {Q : State → Prop} {L : Nat} {xs : Nat → Int32} {u w : Nat} {σ : sv_G} {S : st_T} {i : Int} {tb9 : List ExceptionTableEntry} (C : sx_ok X E (DL tb9)) (hX : sv_X X E L xs) (hL9 : L ≤ 20000) (hu : u + 6 ≤ 601024 ∧ w + 36 ≤ 7293034) (hi : 0 ≤ i ∧ i + 6 ≤ L) (hS : StOK S) (hN : RN σ S) (hO : RO σ S) (kk : ∀ (σ9 : sv_G) (S9 : st_T), StOK S9 → RN σ9 S9 → RO σ9 S9 → SW X E Q (u + 6) (w + 36) 2377 (lsL i) [] σ9) : SW X E Q u w 2235 (lsL i) [] σ := by
  obtain ⟨a1, ha1⟩ : ∃ z : Int, z = (xs (i + 1).toNat).toInt := ⟨_, rfl⟩
  have r1 : -2147483648 ≤ a1 ∧ a1 ≤ 2147483647 := by rw [ha1]; exact i32_rng _
  obtain ⟨a2, ha2⟩ : ∃ z : Int, z = (xs (i + 2).toNat).toInt := ⟨_, rfl⟩
  have r2 : -2147483648 ≤ a2 ∧ a2 ≤ 2147483647 := by rw [ha2]; exact i32_rng _
  obtain ⟨z9, hz9⟩ : ∃ z : Int, z = lorL (shlL a1 32) (landL a2 4294967295) := ⟨_, rfl⟩
  refine s_aload_n C dL_law_2235 rfl ?_
  refine s_aloadS_n C dL_law_2236 rfl ?_
  refine s_iload C dL_law_2237 rfl ?_
  refine s_iconst C dL_law_2239 ?_
  refine s_iadd C dL_law_2240 ?_
  refine s_sld C hX (by omega) dL_law_2241 (by omega) ?_
  rw [← ha1]
  refine s_i2l C dL_law_2242 r1 ?_
  refine s_bipush C dL_law_2243 (by decide) ?_
  refine s_lshl C dL_law_2245 ?_
  refine s_aloadS_n C dL_law_2246 rfl ?_
  refine s_iload C dL_law_2247 rfl ?_
  refine s_iconst C dL_law_2249 ?_
  refine s_iadd C dL_law_2250 ?_
  refine s_sld C hX (by omega) dL_law_2251 (by omega) ?_
  rw [← ha2]
  refine s_i2l C dL_law_2252 r2 ?_
  refine s_ldc2 (n := 4294967295) C dL_law_2253 lc2_206 rfl ?_
  refine s_land C dL_law_2256 ?_
  refine s_lor C dL_law_2257 ?_
  rw [← hz9]
  refine s_cV1l C dL_law_2258 lkL_208 moX7_count mvX7_count (kX7_count hS hN (by rw [hz9]; exact lorL_rng _ _)) sh_0 ⟨_, _, rfl⟩ (Nat.le_of_ble_eq_true rfl) (Nat.le_of_ble_eq_true rfl) rfl ⟨(show u ≤ 601024 by omega), (show w ≤ 7293034 by omega)⟩ (fun r1_ σ1 hp => ?_)
  obtain ⟨hrg, p0, p1, p2, p3, p4⟩ := hp
  have hO1 := hO.fr (σ9 := σ1) fun b k q => p4 b k (by omega)
  refine s_aload_n C dL_law_2261 rfl ?_
  refine s_aloadS_n C dL_law_2262 rfl ?_
  refine s_iload C dL_law_2263 rfl ?_
  refine s_iconst C dL_law_2265 ?_
  refine s_iadd C dL_law_2266 ?_
  refine s_sld C hX (by omega) dL_law_2267 (by omega) ?_
  rw [← ha1]
  refine s_i2l C dL_law_2268 r1 ?_
  refine s_bipush C dL_law_2269 (by decide) ?_
  refine s_lshl C dL_law_2271 ?_
  refine s_aloadS_n C dL_law_2272 rfl ?_
  refine s_iload C dL_law_2273 rfl ?_
  refine s_iconst C dL_law_2275 ?_
  refine s_iadd C dL_law_2276 ?_
  refine s_sld C hX (by omega) dL_law_2277 (by omega) ?_
  rw [← ha2]
  refine s_i2l C dL_law_2278 r2 ?_
  refine s_ldc2 (n := 4294967295) C dL_law_2279 lc2_206 rfl ?_
  refine s_land C dL_law_2282 ?_
  refine s_lor C dL_law_2283 ?_
  rw [← hz9]
  refine s_cV1l C dL_law_2284 lkL_212 moX8_count mvX8_count (kX8_count hS hO1 (by rw [hz9]; exact lorL_rng _ _)) sh_195 ⟨_, _, rfl⟩ (Nat.le_of_ble_eq_true rfl) (Nat.le_of_ble_eq_true rfl) rfl ⟨(show u ≤ 601024 by omega), (show w ≤ 7293034 by omega)⟩ (fun r2_ σ2 hm => ?_)
  obtain ⟨hrg2, m1, m2, m3, m4⟩ := hm
  obtain ⟨q4, q5⟩ := m2 rfl
  have er : r1_ = r2_ := p1.trans q4.symm
  refine s_lcmp C dL_law_2287 hrg hrg2 ?_
  refine s_if_eq (tgt := 2377) C dL_law_2288 (by decide) cmpL_rng (fun c3 => ?_) (fun c3 => ?_)
  · exact s_widen (by omega) (by omega) (kk σ2 (nx_count S z9) p3 (p2.low p3 m4) q5)
  · exact absurd (cmpL_eq.mpr (by rw [er])) c3
set_option maxRecDepth 100000 in
set_option maxHeartbeats 8000000 in
theorem law_30 {X : sx_T} {E : sv_E} {Q : State → Prop} {L : Nat} {xs : Nat → Int32} {u w : Nat} {σ : sv_G} {S : st_T} {i : Int} {tb9 : List ExceptionTableEntry} (C : sx_ok X E (DL tb9)) (hX : sv_X X E L xs) (hL9 : L ≤ 20000) (hu : u + 6 ≤ 601024 ∧ w + 36 ≤ 7293034) (hi : 0 ≤ i ∧ i + 6 ≤ L) (hS : StOK S) (hN : RN σ S) (hO : RO σ S) (kk : ∀ (σ9 : sv_G) (S9 : st_T), StOK S9 → RN σ9 S9 → RO σ9 S9 → SW X E Q (u + 6) (w + 36) 2377 (lsL i) [] σ9) : SW X E Q u w 2293 (lsL i) [] σ := by
  obtain ⟨a1, ha1⟩ : ∃ z : Int, z = (xs (i + 1).toNat).toInt := ⟨_, rfl⟩
  have r1 : -2147483648 ≤ a1 ∧ a1 ≤ 2147483647 := by rw [ha1]; exact i32_rng _
  refine s_aload_n C dL_law_2293 rfl ?_
  refine s_aloadS_n C dL_law_2294 rfl ?_
  refine s_iload C dL_law_2295 rfl ?_
  refine s_iconst C dL_law_2297 ?_
  refine s_iadd C dL_law_2298 ?_
  refine s_sld C hX (by omega) dL_law_2299 (by omega) ?_
  rw [← ha1]
  refine s_aload_n C dL_law_2300 rfl ?_
  refine s_cW3i (u2 := u + 1) (w2 := w + 6) C dL_law_2301 lkL_213 moL_knots mvL_knots (kL_knots hS hN r1) (Nat.le_of_ble_eq_true rfl) (Nat.le_of_ble_eq_true rfl) ⟨rfl, rfl⟩ ⟨(show u + 1 ≤ 601024 by omega), (show w + 6 ≤ 7293034 by omega)⟩ (fun k9 σ1 hp => ?_)
  have hop : 0 ≤ (op_knots S a1).1 ∧ (op_knots S a1).1 ≤ 3 := by unfold op_knots; dsimp only; (repeat' split) <;> omega
  obtain ⟨p1, p2, p3, p4⟩ := hp
  have hO1 := hO.out p4
  refine s_istore (ls2 := [some vS, some (vR 0), some (vR 195), some (vR 228), some (vI i), some (vI k9), none]) C dL_law_2304 (show 5 < 7 by decide) rfl ?_
  refine s_aload_n C dL_law_2306 rfl ?_
  refine s_aloadS_n C dL_law_2307 rfl ?_
  refine s_iload C dL_law_2308 rfl ?_
  refine s_iconst C dL_law_2310 ?_
  refine s_iadd C dL_law_2311 ?_
  refine s_sld C hX (by omega) dL_law_2312 (by omega) ?_
  rw [← ha1]
  refine s_cV1i C dL_law_2313 lkL_215 moX8_knots mvX8_knots (kX8_knots hS hO1 r1) sh_195 ⟨_, _, rfl⟩ (Nat.le_of_ble_eq_true rfl) (Nat.le_of_ble_eq_true rfl) rfl ⟨(show u + 1 ≤ 601024 by omega), (show w + 6 ≤ 7293034 by omega)⟩ (fun b9 σ2 hm => ?_)
  obtain ⟨m1, m2, m3, m4⟩ := hm
  refine s_istore (ls2 := [some vS, some (vR 0), some (vR 195), some (vR 228), some (vI i), some (vI k9), some (vI b9)]) C dL_law_2316 (show 6 < 7 by decide) rfl ?_
  refine s_aload_n C dL_law_2318 rfl ?_
  refine s_cV0i C dL_law_2319 lkL_111 moX8_thrown mvX8_thrown kX8_thrown sh_195 ⟨_, _, rfl⟩ (Nat.le_of_ble_eq_true rfl) (Nat.le_of_ble_eq_true rfl) rfl ⟨(show u + 1 ≤ 601024 by omega), (show w + 6 ≤ 7293034 by omega)⟩ (kpI (fun t9 ht => ?_))
  refine s_iload C dL_law_2322 rfl ?_
  refine s_icmp_eq (tgt := 2329) C dL_law_2324 (by decide) (by omega) (by omega) (fun c1 => ?_) (fun c1 => ?_)
  · refine s_iload C dL_law_2329 rfl ?_
    refine s_if_ne (tgt := 2346) C dL_law_2331 (by decide) (by omega) (fun c2 => ?_) (fun c2 => ?_)
    · refine s_goto (tgt := 2377) C dL_law_2346 (by decide) ?_
      refine s_weak (ls2 := lsL i) (sv_wk_c (sv_wk_c (sv_wk_c (sv_wk_c (sv_wk_c (sv_wk_n (sv_wk_n sv_wk_0))))))) ?_
      refine s_widen (by omega) (by omega) (kk σ2 S ?_ ?_ ?_)
      · exact hS
      · exact (p3 (by omega)).low hS m4
      · exact m3 (by omega)
    · refine s_aload_n C dL_law_2334 rfl ?_
      have h0 : (op_knots S a1).1 = 0 := by omega
      obtain ⟨q1, q2, q3⟩ := p2 h0
      obtain ⟨q4, q5⟩ := m2 h0
      refine s_iconst C dL_law_2335 ?_
      refine s_lald C dL_law_2336 sh_228 (by decide) (fun g9 => ?_)
      refine s_iload C dL_law_2337 rfl ?_
      refine s_asI (wrI_ofInt _) ?_
      refine s_i2l C dL_law_2339 (wrI_rng _) ?_
      refine s_lcmp C dL_law_2340 (by omega) (by have z := wrI_rng b9; omega) ?_
      refine s_if_eq (tgt := 2346) C dL_law_2341 (by decide) cmpL_rng (fun c3 => ?_) (fun c3 => ?_)
      · refine s_goto (tgt := 2377) C dL_law_2346 (by decide) ?_
        refine s_weak (ls2 := lsL i) (sv_wk_c (sv_wk_c (sv_wk_c (sv_wk_c (sv_wk_c (sv_wk_n (sv_wk_n sv_wk_0))))))) ?_
        refine s_widen (by omega) (by omega) (kk σ2 (op_knots S a1).2.2 ?_ ?_ ?_)
        · exact q3
        · exact q2.low q3 m4
        · exact q5
      · exact absurd (cmpL_eq.mpr (by rw [m4 228 0 (by decide), q1, q4])) c3
  · exfalso; omega
set_option maxRecDepth 100000 in
set_option maxHeartbeats 8000000 in
theorem law_31 {X : sx_T} {E : sv_E} {Q : State → Prop} {L : Nat} {xs : Nat → Int32} {u w : Nat} {σ : sv_G} {S : st_T} {i : Int} {tb9 : List ExceptionTableEntry} (C : sx_ok X E (DL tb9)) (hX : sv_X X E L xs) (hL9 : L ≤ 20000) (hu : u + 6 ≤ 601024 ∧ w + 36 ≤ 7293034) (hi : 0 ≤ i ∧ i + 6 ≤ L) (hS : StOK S) (hN : RN σ S) (hO : RO σ S) (kk : ∀ (σ9 : sv_G) (S9 : st_T), StOK S9 → RN σ9 S9 → RO σ9 S9 → SW X E Q (u + 6) (w + 36) 2377 (lsL i) [] σ9) : SW X E Q u w 2349 (lsL i) [] σ := by
  refine s_aload_n C dL_law_2349 rfl ?_
  refine s_cV0l C dL_law_2350 lkL_216 moX7_lost mvX7_lost (kX7_lost hS hN) sh_0 ⟨_, _, rfl⟩ (Nat.le_of_ble_eq_true rfl) (Nat.le_of_ble_eq_true rfl) rfl ⟨(show u ≤ 601024 by omega), (show w ≤ 7293034 by omega)⟩ (fun r1_ σ1 hp => ?_)
  obtain ⟨hrg, p0, p1, p2, p3, p4⟩ := hp
  have hO1 := hO.fr (σ9 := σ1) fun b k q => p4 b k (by omega)
  refine s_asL (wrL_ofInt _) ?_
  refine s_aload_n C dL_law_2353 rfl ?_
  refine s_cV0l C dL_law_2354 lkL_220 moX8_lost mvX8_lost (kX8_lost hS hO1) sh_195 ⟨_, _, rfl⟩ (Nat.le_of_ble_eq_true rfl) (Nat.le_of_ble_eq_true rfl) rfl ⟨(show u ≤ 601024 by omega), (show w ≤ 7293034 by omega)⟩ (fun r2_ σ2 hm => ?_)
  obtain ⟨m1, m2, m3, m4⟩ := hm
  obtain ⟨q4, q5⟩ := m2 rfl
  have er : r1_ = r2_ := p1.trans q4.symm
  refine s_asL (wrL_ofInt _) ?_
  refine s_lcmp C dL_law_2357 (wrL_rng _) (wrL_rng _) ?_
  refine s_if_eq (tgt := 2377) C dL_law_2358 (by decide) cmpL_rng (fun c3 => ?_) (fun c3 => ?_)
  · exact s_widen (by omega) (by omega) (kk σ2 S p3 (p2.low p3 m4) q5)
  · exact absurd (cmpL_eq.mpr (by rw [er])) c3
set_option maxRecDepth 100000 in
set_option maxHeartbeats 8000000 in
theorem law_32 {X : sx_T} {E : sv_E} {Q : State → Prop} {L : Nat} {xs : Nat → Int32} {u w : Nat} {σ : sv_G} {S : st_T} {i : Int} {tb9 : List ExceptionTableEntry} (C : sx_ok X E (DL tb9)) (hX : sv_X X E L xs) (hL9 : L ≤ 20000) (hu : u + 6 ≤ 601024 ∧ w + 36 ≤ 7293034) (hi : 0 ≤ i ∧ i + 6 ≤ L) (hS : StOK S) (hN : RN σ S) (hO : RO σ S) (kk : ∀ (σ9 : sv_G) (S9 : st_T), StOK S9 → RN σ9 S9 → RO σ9 S9 → SW X E Q (u + 6) (w + 36) 2377 (lsL i) [] σ9) : SW X E Q u w 2363 (lsL i) [] σ := by
  refine s_aload_n C dL_law_2363 rfl ?_
  refine s_cV0l C dL_law_2364 lkL_221 moX7_shown mvX7_shown (kX7_shown hS hN) sh_0 ⟨_, _, rfl⟩ (Nat.le_of_ble_eq_true rfl) (Nat.le_of_ble_eq_true rfl) rfl ⟨(show u ≤ 601024 by omega), (show w ≤ 7293034 by omega)⟩ (fun r1_ σ1 hp => ?_)
  obtain ⟨p0, p1, p2, p3, p4⟩ := hp
  have hO1 := hO.fr (σ9 := σ1) fun b k q => p4 b k (by omega)
  refine s_asL (wrL_ofInt _) ?_
  refine s_aload_n C dL_law_2367 rfl ?_
  refine s_cV0l C dL_law_2368 lkL_224 moX8_shown mvX8_shown (kX8_shown hS hO1) sh_195 ⟨_, _, rfl⟩ (Nat.le_of_ble_eq_true rfl) (Nat.le_of_ble_eq_true rfl) rfl ⟨(show u ≤ 601024 by omega), (show w ≤ 7293034 by omega)⟩ (fun r2_ σ2 hm => ?_)
  obtain ⟨m1, m2, m3, m4⟩ := hm
  obtain ⟨q4, q5⟩ := m2 rfl
  have er : r1_ = r2_ := p1.trans q4.symm
  refine s_asL (wrL_ofInt _) ?_
  refine s_lcmp C dL_law_2371 (wrL_rng _) (wrL_rng _) ?_
  refine s_if_eq (tgt := 2377) C dL_law_2372 (by decide) cmpL_rng (fun c3 => ?_) (fun c3 => ?_)
  · exact s_widen (by omega) (by omega) (kk σ2 S p3 (p2.low p3 m4) q5)
  · exact absurd (cmpL_eq.mpr (by rw [er])) c3
