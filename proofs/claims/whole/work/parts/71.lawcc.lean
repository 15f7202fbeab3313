theorem dl_1790 : decode cL_law 1790 = .ok (.aload_n 1, 1) := by decide +kernel
theorem dl_1791 : decode cL_law 1791 = .ok (.aload_n 0, 1) := by decide +kernel
theorem dl_1792 : decode cL_law 1792 = .ok (.iload 4, 2) := by decide +kernel
theorem dl_1794 : decode cL_law 1794 = .ok (.iconst 1, 1) := by decide +kernel
theorem dl_1795 : decode cL_law 1795 = .ok (.iadd, 1) := by decide +kernel
theorem dl_1796 : decode cL_law 1796 = .ok (.iaload, 1) := by decide +kernel
theorem dl_1797 : decode cL_law 1797 = .ok (.aload_n 0, 1) := by decide +kernel
theorem dl_1798 : decode cL_law 1798 = .ok (.iload 4, 2) := by decide +kernel
theorem dl_1800 : decode cL_law 1800 = .ok (.iconst 2, 1) := by decide +kernel
theorem dl_1801 : decode cL_law 1801 = .ok (.iadd, 1) := by decide +kernel
theorem dl_1802 : decode cL_law 1802 = .ok (.iaload, 1) := by decide +kernel
theorem dl_1803 : decode cL_law 1803 = .ok (.aload_n 3, 1) := by decide +kernel
theorem dl_1804 : decode cL_law 1804 = .ok (.invokestatic 247, 3) := by decide +kernel
theorem dl_1807 : decode cL_law 1807 = .ok (.istore 5, 2) := by decide +kernel
theorem dl_1809 : decode cL_law 1809 = .ok (.aload_n 2, 1) := by decide +kernel
theorem dl_1810 : decode cL_law 1810 = .ok (.aload_n 0, 1) := by decide +kernel
theorem dl_1811 : decode cL_law 1811 = .ok (.iload 4, 2) := by decide +kernel
theorem dl_1813 : decode cL_law 1813 = .ok (.iconst 1, 1) := by decide +kernel
theorem dl_1814 : decode cL_law 1814 = .ok (.iadd, 1) := by decide +kernel
theorem dl_1815 : decode cL_law 1815 = .ok (.iaload, 1) := by decide +kernel
theorem dl_1816 : decode cL_law 1816 = .ok (.aload_n 0, 1) := by decide +kernel
theorem dl_1817 : decode cL_law 1817 = .ok (.iload 4, 2) := by decide +kernel
theorem dl_1819 : decode cL_law 1819 = .ok (.iconst 2, 1) := by decide +kernel
theorem dl_1820 : decode cL_law 1820 = .ok (.iadd, 1) := by decide +kernel
theorem dl_1821 : decode cL_law 1821 = .ok (.iaload, 1) := by decide +kernel
theorem dl_1822 : decode cL_law 1822 = .ok (.invokevirtual 249, 3) := by decide +kernel
theorem dl_1825 : decode cL_law 1825 = .ok (.istore 6, 2) := by decide +kernel
theorem dl_1827 : decode cL_law 1827 = .ok (.aload_n 2, 1) := by decide +kernel
theorem dl_1828 : decode cL_law 1828 = .ok (.invokevirtual 172, 3) := by decide +kernel
theorem dl_1831 : decode cL_law 1831 = .ok (.iload 5, 2) := by decide +kernel
theorem dl_1833 : decode cL_law 1833 = .ok (.if_icmp .eq 5, 3) := by decide +kernel
theorem dl_1836 : decode cL_law 1836 = .ok (.iconst 0, 1) := by decide +kernel
theorem dl_1837 : decode cL_law 1837 = .ok (.ireturn, 1) := by decide +kernel
theorem dl_1838 : decode cL_law 1838 = .ok (.iload 5, 2) := by decide +kernel
theorem dl_1840 : decode cL_law 1840 = .ok (.ifCond .ne 22, 3) := by decide +kernel
theorem dl_1843 : decode cL_law 1843 = .ok (.aload_n 3, 1) := by decide +kernel
theorem dl_1844 : decode cL_law 1844 = .ok (.iconst 0, 1) := by decide +kernel
theorem dl_1845 : decode cL_law 1845 = .ok (.laload, 1) := by decide +kernel
theorem dl_1846 : decode cL_law 1846 = .ok (.iload 6, 2) := by decide +kernel
theorem dl_1848 : decode cL_law 1848 = .ok (.ifCond .eq 7, 3) := by decide +kernel
theorem dl_1851 : decode cL_law 1851 = .ok (.lconst 1, 1) := by decide +kernel
theorem dl_1852 : decode cL_law 1852 = .ok (.goto 4, 3) := by decide +kernel
theorem dl_1855 : decode cL_law 1855 = .ok (.lconst 0, 1) := by decide +kernel
theorem dl_1856 : decode cL_law 1856 = .ok (.lcmp, 1) := by decide +kernel
theorem dl_1857 : decode cL_law 1857 = .ok (.ifCond .eq 5, 3) := by decide +kernel
theorem dl_1860 : decode cL_law 1860 = .ok (.iconst 0, 1) := by decide +kernel
theorem dl_1861 : decode cL_law 1861 = .ok (.ireturn, 1) := by decide +kernel
theorem dl_1862 : decode cL_law 1862 = .ok (.goto 1386, 3) := by decide +kernel
set_option maxRecDepth 100000 in
set_option maxHeartbeats 4000000 in
theorem lk_letGo {p : Program} {l : Launch} {e : Env} {s : State} {m : MethodId} {args : Array Value} {below : List Frame} {meth : Method} {c : Code} {k : KC} {A : Nat → Prop} {Q : State → Prop} {bc1 bs1 b0 Ln b ao mo i : Nat} {xs : Nat → Int32} {ad : Nat → Nat} {f : Nat → Int64} {X : CX} {S : CT} {M : MS} {rt9 : Option FieldType} (hl : l.stackTraces = false) (G : GX p l room_1 s m args meth c k A RL cL_law 8 rt9) (hX : va_X b0 Ln xs s s.heap) (hbl : b0 < s.heap.size) (hbA : ¬ A b0) (hH : HM mo ad) (hi : i + 8 ≤ Ln) (hL : Ln ≤ 4096) (h : LV9 k b X S ao f mo ad M) (hend : ∀ X2 S2 M2 f2, LV9 k b X2 S2 ao f2 mo ad M2 → Wx p l e room_1 s m args below meth c k A 8 Q bc1 bs1 3248 [some (.ref b0), some (.ref b), some (.ref mo), some (.ref ao), some (.int (nI i)), none, none, none] [] (WL k X2 S2 ao f2 mo ad M2)) : Wx p l e room_1 s m args below meth c k A 8 Q (bc1 + 1) (bs1 + 6) 1790 [some (.ref b0), some (.ref b), some (.ref mo), some (.ref ao), some (.int (nI i)), none, none, none] [] (WL k X S ao f mo ad M) := by
  obtain ⟨hI, hb, hd1, hd2⟩ := h
  obtain ⟨hbm, fs, hbf⟩ := cw11 (k := k) (S := S) hI.1 hb
  have hvr := vr11 hb
  have hx1 : vp_in (nI i + 1) Ln := ix_in (j := 1) rfl (by omega) hL
  have hx2 : vp_in (nI i + 2) Ln := ix_in (j := 2) rfl (by omega) hL
  unfold WL
  refine x_aload1 (pc := 1790) G dl_1790 ?_
  refine x_aload0 (pc := 1791) G dl_1791 ?_
  refine x_iload4 (pc := 1792) G dl_1792 ?_
  refine x_iconst (pc := 1794) (v := 1) G dl_1794 (by decide) ?_
  refine x_iadd (pc := 1795) G dl_1795 ?_
  refine x_sld (pc := 1796) G hX hbl hbA hx1 dl_1796 ?_
  refine x_aload0 (pc := 1797) G dl_1797 ?_
  refine x_iload4 (pc := 1798) G dl_1798 ?_
  refine x_iconst (pc := 1800) (v := 2) G dl_1800 (by decide) ?_
  refine x_iadd (pc := 1801) G dl_1801 ?_
  refine x_sld (pc := 1802) G hX hbl hbA hx2 dl_1802 ?_
  refine x_aload3 (pc := 1803) G dl_1803 ?_
  have hC := kc_letGo (k := k) hl hI (p1 := (xs (nI i + 1).toNatClampNeg)) (p2 := (xs (nI i + 2).toNatClampNeg))
  rw [hvr] at hC
  have hst := fun {o : Out} {w : Wd} => so_letGo (k := k) (o := o) (w := w) (p1 := (xs (nI i + 1).toNatClampNeg)) (p2 := (xs (nI i + 2).toNatClampNeg)) hI
  have hh := ch_letGo hl hbm hbf hd1 hC (fun o w hp => by
    obtain ⟨_, _, _, _, _, ⟨ho, _⟩ | ⟨E, he, _, hc⟩⟩ := hst hp
    · exact Or.inl ⟨_, ho⟩
    · exact Or.inr ⟨E, he, hc⟩)
  have hh := MI.frame hh hd2
  refine x_callSW (pc := 1804) (bc1 := bc1) (bs1 := bs1) (n := 4) (As := [.ref b, .int (xs (nI i + 1).toNatClampNeg), .int (xs (nI i + 2).toNatClampNeg), .ref ao]) G hh q_ml_L_247 q_st_yL_letGo q_in_L q_cw_letGo ⟨by decide, by decide, by decide +kernel⟩ ⟨Nat.le_of_ble_eq_true rfl, Nat.le_of_ble_eq_true rfl⟩ (Nat.zero_le _) (Nat.le_refl _) (Nat.le_refl _) rfl rfl dl_1804 (fun v w9 hp => ?_)
  obtain ⟨X2, S2, f2, kc, rfl, hL2, hv, hk, hz⟩ : ∃ X2 S2 f2 kc, w9 = wu (wu (cW k X2 S2) (oW k ao f2)) (mW k mo ad M) ∧ LV9 k b X2 S2 ao f2 mo ad (f_letGo (xs (nI i + 1).toNatClampNeg) (xs (nI i + 2).toNatClampNeg) M).2 ∧ v = some (.int kc) ∧ mI (f_letGo (xs (nI i + 1).toNatClampNeg) (xs (nI i + 2).toNatClampNeg) M).2 0 = kc ∧ (kc = 0 → f2 0 = if (f_letGo (xs (nI i + 1).toNatClampNeg) (xs (nI i + 2).toNatClampNeg) M).1 = 0 then 0 else 1) := by
    obtain ⟨h9, ⟨w1, f1, rfl, hd1', hpp⟩, hd2', rfl⟩ := hp
    rcases hpp with ⟨r, hp1, hv, hf⟩ | ⟨E, hp1, hv⟩
    · obtain ⟨X2, S2, rfl, hI2, hb2, ⟨ho, h0⟩ | ⟨E, he, _, _⟩⟩ := hst hp1
      · have e9 := Sum.inl.inj ho
        cases e9
        exact ⟨X2, S2, _, 0, rfl, ⟨hI2, hb2.trans hb, hd1', hd2'⟩, Sum.inl.inj hv, h0, fun _ => hf⟩
      · cases he
    · obtain ⟨X2, S2, rfl, hI2, hb2, ⟨ho, h0⟩ | ⟨E2, he, h0, hc⟩⟩ := hst hp1
      · cases ho
      · cases he
        refine ⟨X2, S2, _, _, rfl, ⟨hI2, hb2.trans hb, hd1', hd2'⟩, Sum.inl.inj hv, h0, fun z => ?_⟩
        rcases hc with rfl | rfl <;> exact absurd z (by decide)
  subst hv
  obtain ⟨hI2, hb2, hd1', hd2'⟩ := id hL2
  refine x_istore5 (pc := 1807) G dl_1807 (by decide) rfl ?_
  refine x_aload2 (pc := 1809) G dl_1809 ?_
  refine x_aload0 (pc := 1810) G dl_1810 ?_
  refine x_iload4 (pc := 1811) G dl_1811 ?_
  refine x_iconst (pc := 1813) (v := 1) G dl_1813 (by decide) ?_
  refine x_iadd (pc := 1814) G dl_1814 ?_
  refine x_sld (pc := 1815) G hX hbl hbA hx1 dl_1815 ?_
  refine x_aload0 (pc := 1816) G dl_1816 ?_
  refine x_iload4 (pc := 1817) G dl_1817 ?_
  refine x_iconst (pc := 1819) (v := 2) G dl_1819 (by decide) ?_
  refine x_iadd (pc := 1820) G dl_1820 ?_
  refine x_sld (pc := 1821) G hX hbl hbA hx2 dl_1821 ?_
  have hr := rc_letGo (k := k) hl hH hI.2.2.2 (p1 := (xs (nI i + 1).toNatClampNeg)) (p2 := (xs (nI i + 2).toNatClampNeg))
  refine Wx_perm hd2' ?_
  refine x_callV (pc := 1822) (bc1 := bc1) (bs1 := bs1) (n := 2) (As := [.int (xs (nI i + 1).toNatClampNeg), .int (xs (nI i + 2).toNatClampNeg)]) G (hr.frame (fun a ha z => hd2' a z ha)) (List.mem_append_left _ mW_mo.1) ((if_pos mW_mo.1).trans mW_mo.2) (show vwCl[12]? = some (_, _, _) from rfl) q_ml_L_249 q_im_yX11_letGo q_se_yX11_letGo q_in_X11 q_co_yX11_letGo ⟨by decide, by decide, by decide +kernel⟩ ⟨Nat.le_of_ble_eq_true rfl, Nat.le_of_ble_eq_true rfl⟩ (Nat.zero_le _) (Nat.le_refl _) (Nat.le_refl _) rfl rfl dl_1822 (fun v w9 hp => ?_) (fun E w9 hp => by obtain ⟨_, hq, _⟩ := hp; cases hq.1)
  obtain ⟨h9, ⟨hv, rfl⟩, _, rfl⟩ := hp
  have hv := Sum.inl.inj hv
  subst hv
  refine Wx_perm (fun a ha z => hd2' a z ha) ?_
  refine x_istore6 (pc := 1825) G dl_1825 (by decide) rfl ?_
  refine x_aload2 (pc := 1827) G dl_1827 ?_
  refine Wx_perm hd2' ?_
  refine x_callV (pc := 1828) (bc1 := bc1) (bs1 := bs1) (n := 0) (As := []) G ((c_thrown (k := k) (M := (f_letGo (xs (nI i + 1).toNatClampNeg) (xs (nI i + 2).toNatClampNeg) M).2) hl hH).frame (fun a ha z => hd2' a z ha)) (List.mem_append_left _ mW_mo.1) ((if_pos mW_mo.1).trans mW_mo.2) (show vwCl[12]? = some (_, _, _) from rfl) q_ml_L_172 q_im_yX11_thrown q_se_yX11_thrown q_in_X11 q_co_yX11_thrown ⟨by decide, by decide, by decide +kernel⟩ ⟨Nat.le_of_ble_eq_true rfl, Nat.le_of_ble_eq_true rfl⟩ (Nat.zero_le _) (Nat.le_refl _) (Nat.le_refl _) rfl rfl dl_1828 (fun v w9 hp => ?_) (fun E w9 hp => by obtain ⟨_, hq, _⟩ := hp; cases hq.1)
  obtain ⟨h9, ⟨hv, rfl⟩, _, rfl⟩ := hp
  have hv := Sum.inl.inj hv
  subst hv
  refine Wx_perm (fun a ha z => hd2' a z ha) ?_
  refine x_iload5 (pc := 1831) G dl_1831 ?_
  refine x_icmp_eq (pc := 1833) (tgt := 1838) G dl_1833 rfl (fun _ => ?_) (fun z9 => absurd hk z9)
  refine x_iload5 (pc := 1838) G dl_1838 ?_
  refine x_if_ne (pc := 1840) (tgt := 1862) (y := 0) G dl_1840 rfl (fun _ => ?_) (fun z9 => ?_)
  · skip
    refine x_goto (pc := 1862) (tgt := 3248) G dl_1862 rfl ?_
    exact Wx_l8 (hend X2 S2 _ f2 hL2)
  · have hf := hz z9
    refine x_aload3 (pc := 1843) G dl_1843 ?_
    refine x_iconst (pc := 1844) (v := 0) G dl_1844 (by decide) ?_
    refine x_old (pc := 1845) G hd1' dl_1845 ?_
    refine x_iload6 (pc := 1846) G dl_1846 ?_
    refine x_if_eq (pc := 1848) (tgt := 1855) (y := 0) G dl_1848 rfl (fun z7 => ?_) (fun z7 => ?_)
    · refine x_lconst (pc := 1855) (v := 0) G dl_1855 (by decide) ?_
      refine x_lcmp (pc := 1856) G dl_1856 ?_
      refine x_if_eq (pc := 1857) (tgt := 1862) (y := 0) G dl_1857 rfl (fun _ => ?_) (fun z8 => absurd (lg_same (hf.trans (if_pos z7))) z8)
      refine x_goto (pc := 1862) (tgt := 3248) G dl_1862 rfl ?_
      exact Wx_l8 (hend X2 S2 _ f2 hL2)
    · refine x_lconst (pc := 1851) (v := 1) G dl_1851 (by decide) ?_
      refine x_goto (pc := 1852) (tgt := 1856) G dl_1852 rfl ?_
      refine x_lcmp (pc := 1856) G dl_1856 ?_
      refine x_if_eq (pc := 1857) (tgt := 1862) (y := 0) G dl_1857 rfl (fun _ => ?_) (fun z8 => absurd (lg_same (hf.trans (if_neg z7))) z8)
      refine x_goto (pc := 1862) (tgt := 3248) G dl_1862 rfl ?_
      exact Wx_l8 (hend X2 S2 _ f2 hL2)
theorem dl_1865 : decode cL_law 1865 = .ok (.aload_n 1, 1) := by decide +kernel
theorem dl_1866 : decode cL_law 1866 = .ok (.aload_n 0, 1) := by decide +kernel
theorem dl_1867 : decode cL_law 1867 = .ok (.iload 4, 2) := by decide +kernel
theorem dl_1869 : decode cL_law 1869 = .ok (.iconst 1, 1) := by decide +kernel
theorem dl_1870 : decode cL_law 1870 = .ok (.iadd, 1) := by decide +kernel
theorem dl_1871 : decode cL_law 1871 = .ok (.iaload, 1) := by decide +kernel
theorem dl_1872 : decode cL_law 1872 = .ok (.aload_n 0, 1) := by decide +kernel
theorem dl_1873 : decode cL_law 1873 = .ok (.iload 4, 2) := by decide +kernel
theorem dl_1875 : decode cL_law 1875 = .ok (.iconst 2, 1) := by decide +kernel
theorem dl_1876 : decode cL_law 1876 = .ok (.iadd, 1) := by decide +kernel
theorem dl_1877 : decode cL_law 1877 = .ok (.iaload, 1) := by decide +kernel
theorem dl_1878 : decode cL_law 1878 = .ok (.ifCond .eq 7, 3) := by decide +kernel
theorem dl_1881 : decode cL_law 1881 = .ok (.iconst 1, 1) := by decide +kernel
theorem dl_1882 : decode cL_law 1882 = .ok (.goto 4, 3) := by decide +kernel
theorem dl_1885 : decode cL_law 1885 = .ok (.iconst 0, 1) := by decide +kernel
theorem dl_1886 : decode cL_law 1886 = .ok (.aload_n 3, 1) := by decide +kernel
theorem dl_1887 : decode cL_law 1887 = .ok (.invokestatic 250, 3) := by decide +kernel
theorem dl_1890 : decode cL_law 1890 = .ok (.istore 5, 2) := by decide +kernel
theorem dl_1892 : decode cL_law 1892 = .ok (.aload_n 2, 1) := by decide +kernel
theorem dl_1893 : decode cL_law 1893 = .ok (.aload_n 0, 1) := by decide +kernel
theorem dl_1894 : decode cL_law 1894 = .ok (.iload 4, 2) := by decide +kernel
theorem dl_1896 : decode cL_law 1896 = .ok (.iconst 1, 1) := by decide +kernel
theorem dl_1897 : decode cL_law 1897 = .ok (.iadd, 1) := by decide +kernel
theorem dl_1898 : decode cL_law 1898 = .ok (.iaload, 1) := by decide +kernel
theorem dl_1899 : decode cL_law 1899 = .ok (.aload_n 0, 1) := by decide +kernel
theorem dl_1900 : decode cL_law 1900 = .ok (.iload 4, 2) := by decide +kernel
theorem dl_1902 : decode cL_law 1902 = .ok (.iconst 2, 1) := by decide +kernel
theorem dl_1903 : decode cL_law 1903 = .ok (.iadd, 1) := by decide +kernel
theorem dl_1904 : decode cL_law 1904 = .ok (.iaload, 1) := by decide +kernel
theorem dl_1905 : decode cL_law 1905 = .ok (.ifCond .eq 7, 3) := by decide +kernel
theorem dl_1908 : decode cL_law 1908 = .ok (.iconst 1, 1) := by decide +kernel
theorem dl_1909 : decode cL_law 1909 = .ok (.goto 4, 3) := by decide +kernel
theorem dl_1912 : decode cL_law 1912 = .ok (.iconst 0, 1) := by decide +kernel
theorem dl_1913 : decode cL_law 1913 = .ok (.invokevirtual 252, 3) := by decide +kernel
theorem dl_1916 : decode cL_law 1916 = .ok (.istore 6, 2) := by decide +kernel
theorem dl_1918 : decode cL_law 1918 = .ok (.aload_n 2, 1) := by decide +kernel
theorem dl_1919 : decode cL_law 1919 = .ok (.invokevirtual 172, 3) := by decide +kernel
theorem dl_1922 : decode cL_law 1922 = .ok (.iload 5, 2) := by decide +kernel
theorem dl_1924 : decode cL_law 1924 = .ok (.if_icmp .eq 5, 3) := by decide +kernel
theorem dl_1927 : decode cL_law 1927 = .ok (.iconst 0, 1) := by decide +kernel
theorem dl_1928 : decode cL_law 1928 = .ok (.ireturn, 1) := by decide +kernel
theorem dl_1929 : decode cL_law 1929 = .ok (.iload 5, 2) := by decide +kernel
theorem dl_1931 : decode cL_law 1931 = .ok (.ifCond .ne 15, 3) := by decide +kernel
theorem dl_1934 : decode cL_law 1934 = .ok (.aload_n 3, 1) := by decide +kernel
theorem dl_1935 : decode cL_law 1935 = .ok (.iconst 0, 1) := by decide +kernel
theorem dl_1936 : decode cL_law 1936 = .ok (.laload, 1) := by decide +kernel
theorem dl_1937 : decode cL_law 1937 = .ok (.iload 6, 2) := by decide +kernel
theorem dl_1939 : decode cL_law 1939 = .ok (.i2l, 1) := by decide +kernel
theorem dl_1940 : decode cL_law 1940 = .ok (.lcmp, 1) := by decide +kernel
theorem dl_1941 : decode cL_law 1941 = .ok (.ifCond .eq 5, 3) := by decide +kernel
theorem dl_1944 : decode cL_law 1944 = .ok (.iconst 0, 1) := by decide +kernel
theorem dl_1945 : decode cL_law 1945 = .ok (.ireturn, 1) := by decide +kernel
theorem dl_1946 : decode cL_law 1946 = .ok (.goto 1302, 3) := by decide +kernel
set_option maxRecDepth 100000 in
set_option maxHeartbeats 4000000 in
theorem lk_run {p : Program} {l : Launch} {e : Env} {s : State} {m : MethodId} {args : Array Value} {below : List Frame} {meth : Method} {c : Code} {k : KC} {A : Nat → Prop} {Q : State → Prop} {bc1 bs1 b0 Ln b ao mo i : Nat} {xs : Nat → Int32} {ad : Nat → Nat} {f : Nat → Int64} {X : CX} {S : CT} {M : MS} {rt9 : Option FieldType} (hl : l.stackTraces = false) (G : GX p l room_1 s m args meth c k A RL cL_law 8 rt9) (hX : va_X b0 Ln xs s s.heap) (hbl : b0 < s.heap.size) (hbA : ¬ A b0) (hH : HM mo ad) (hi : i + 8 ≤ Ln) (hL : Ln ≤ 4096) (h : LV9 k b X S ao f mo ad M) (hend : ∀ X2 S2 M2 f2, LV9 k b X2 S2 ao f2 mo ad M2 → Wx p l e room_1 s m args below meth c k A 8 Q bc1 bs1 3248 [some (.ref b0), some (.ref b), some (.ref mo), some (.ref ao), some (.int (nI i)), none, none, none] [] (WL k X2 S2 ao f2 mo ad M2)) : Wx p l e room_1 s m args below meth c k A 8 Q (bc1 + 1) (bs1 + 6) 1865 [some (.ref b0), some (.ref b), some (.ref mo), some (.ref ao), some (.int (nI i)), none, none, none] [] (WL k X S ao f mo ad M) := by
  obtain ⟨hI, hb, hd1, hd2⟩ := h
  obtain ⟨hbm, fs, hbf⟩ := cw11 (k := k) (S := S) hI.1 hb
  have hvr := vr11 hb
  have hx1 : vp_in (nI i + 1) Ln := ix_in (j := 1) rfl (by omega) hL
  have hx2 : vp_in (nI i + 2) Ln := ix_in (j := 2) rfl (by omega) hL
  unfold WL
  by_cases hz0 : (xs (nI i + 2).toNatClampNeg) = 0
  · skip
    refine x_aload1 (pc := 1865) G dl_1865 ?_
    refine x_aload0 (pc := 1866) G dl_1866 ?_
    refine x_iload4 (pc := 1867) G dl_1867 ?_
    refine x_iconst (pc := 1869) (v := 1) G dl_1869 (by decide) ?_
    refine x_iadd (pc := 1870) G dl_1870 ?_
    refine x_sld (pc := 1871) G hX hbl hbA hx1 dl_1871 ?_
    refine x_aload0 (pc := 1872) G dl_1872 ?_
    refine x_iload4 (pc := 1873) G dl_1873 ?_
    refine x_iconst (pc := 1875) (v := 2) G dl_1875 (by decide) ?_
    refine x_iadd (pc := 1876) G dl_1876 ?_
    refine x_sld (pc := 1877) G hX hbl hbA hx2 dl_1877 ?_
    refine x_if_eq (pc := 1878) (tgt := 1885) (y := 0) G dl_1878 rfl (fun _ => ?_) (fun z9 => absurd hz0 z9)
    refine x_iconst (pc := 1885) (v := 0) G dl_1885 (by decide) ?_
    refine x_aload3 (pc := 1886) G dl_1886 ?_
    have hC := kc_run (k := k) hl hI (p1 := (xs (nI i + 1).toNatClampNeg)) (p2 := 0)
    rw [hvr] at hC
    have hst := fun {o : Out} {w : Wd} => so_run (k := k) (o := o) (w := w) (p1 := (xs (nI i + 1).toNatClampNeg)) (p2 := 0) hI
    have hh := ch_run hl hbm hbf hd1 hC (fun o w hp => by
      obtain ⟨_, _, _, _, _, ⟨ho, _⟩ | ⟨E, he, _, hc⟩⟩ := hst hp
      · exact Or.inl ⟨_, ho⟩
      · exact Or.inr ⟨E, he, hc⟩)
    have hh := MI.frame hh hd2
    refine x_callSW (pc := 1887) (bc1 := bc1) (bs1 := bs1) (n := 4) (As := [.ref b, .int (xs (nI i + 1).toNatClampNeg), .int 0, .ref ao]) G hh q_ml_L_250 q_st_yL_run q_in_L q_cw_run ⟨by decide, by decide, by decide +kernel⟩ ⟨Nat.le_of_ble_eq_true rfl, Nat.le_of_ble_eq_true rfl⟩ (Nat.zero_le _) (Nat.le_refl _) (Nat.le_refl _) rfl rfl dl_1887 (fun v w9 hp => ?_)
    obtain ⟨X2, S2, f2, kc, rfl, hL2, hv, hk, hz⟩ : ∃ X2 S2 f2 kc, w9 = wu (wu (cW k X2 S2) (oW k ao f2)) (mW k mo ad M) ∧ LV9 k b X2 S2 ao f2 mo ad (f_run (xs (nI i + 1).toNatClampNeg) 0 M).2 ∧ v = some (.int kc) ∧ mI (f_run (xs (nI i + 1).toNatClampNeg) 0 M).2 0 = kc ∧ (kc = 0 → f2 0 = (f_run (xs (nI i + 1).toNatClampNeg) 0 M).1.toInt64) := by
      obtain ⟨h9, ⟨w1, f1, rfl, hd1', hpp⟩, hd2', rfl⟩ := hp
      rcases hpp with ⟨r, hp1, hv, hf⟩ | ⟨E, hp1, hv⟩
      · obtain ⟨X2, S2, rfl, hI2, hb2, ⟨ho, h0⟩ | ⟨E, he, _, _⟩⟩ := hst hp1
        · have e9 := Sum.inl.inj ho
          cases e9
          exact ⟨X2, S2, _, 0, rfl, ⟨hI2, hb2.trans hb, hd1', hd2'⟩, Sum.inl.inj hv, h0, fun _ => hf⟩
        · cases he
      · obtain ⟨X2, S2, rfl, hI2, hb2, ⟨ho, h0⟩ | ⟨E2, he, h0, hc⟩⟩ := hst hp1
        · cases ho
        · cases he
          refine ⟨X2, S2, _, _, rfl, ⟨hI2, hb2.trans hb, hd1', hd2'⟩, Sum.inl.inj hv, h0, fun z => ?_⟩
          rcases hc with rfl <;> exact absurd z (by decide)
    subst hv
    obtain ⟨hI2, hb2, hd1', hd2'⟩ := id hL2
    refine x_istore5 (pc := 1890) G dl_1890 (by decide) rfl ?_
    refine x_aload2 (pc := 1892) G dl_1892 ?_
    refine x_aload0 (pc := 1893) G dl_1893 ?_
    refine x_iload4 (pc := 1894) G dl_1894 ?_
    refine x_iconst (pc := 1896) (v := 1) G dl_1896 (by decide) ?_
    refine x_iadd (pc := 1897) G dl_1897 ?_
    refine x_sld (pc := 1898) G hX hbl hbA hx1 dl_1898 ?_
    refine x_aload0 (pc := 1899) G dl_1899 ?_
    refine x_iload4 (pc := 1900) G dl_1900 ?_
    refine x_iconst (pc := 1902) (v := 2) G dl_1902 (by decide) ?_
    refine x_iadd (pc := 1903) G dl_1903 ?_
    refine x_sld (pc := 1904) G hX hbl hbA hx2 dl_1904 ?_
    refine x_if_eq (pc := 1905) (tgt := 1912) (y := 0) G dl_1905 rfl (fun _ => ?_) (fun z9 => absurd hz0 z9)
    refine x_iconst (pc := 1912) (v := 0) G dl_1912 (by decide) ?_
    have hr := rc_run (k := k) hl hH hI.2.2.2 (p1 := (xs (nI i + 1).toNatClampNeg)) (p2 := 0)
    refine Wx_perm hd2' ?_
    refine x_callV (pc := 1913) (bc1 := bc1) (bs1 := bs1) (n := 2) (As := [.int (xs (nI i + 1).toNatClampNeg), .int 0]) G (hr.frame (fun a ha z => hd2' a z ha)) (List.mem_append_left _ mW_mo.1) ((if_pos mW_mo.1).trans mW_mo.2) (show vwCl[12]? = some (_, _, _) from rfl) q_ml_L_252 q_im_yX11_run q_se_yX11_run q_in_X11 q_co_yX11_run ⟨by decide, by decide, by decide +kernel⟩ ⟨Nat.le_of_ble_eq_true rfl, Nat.le_of_ble_eq_true rfl⟩ (Nat.zero_le _) (Nat.le_refl _) (Nat.le_refl _) rfl rfl dl_1913 (fun v w9 hp => ?_) (fun E w9 hp => by obtain ⟨_, hq, _⟩ := hp; cases hq.1)
    obtain ⟨h9, ⟨hv, rfl⟩, _, rfl⟩ := hp
    have hv := Sum.inl.inj hv
    subst hv
    refine Wx_perm (fun a ha z => hd2' a z ha) ?_
    refine x_istore6 (pc := 1916) G dl_1916 (by decide) rfl ?_
    refine x_aload2 (pc := 1918) G dl_1918 ?_
    refine Wx_perm hd2' ?_
    refine x_callV (pc := 1919) (bc1 := bc1) (bs1 := bs1) (n := 0) (As := []) G ((c_thrown (k := k) (M := (f_run (xs (nI i + 1).toNatClampNeg) 0 M).2) hl hH).frame (fun a ha z => hd2' a z ha)) (List.mem_append_left _ mW_mo.1) ((if_pos mW_mo.1).trans mW_mo.2) (show vwCl[12]? = some (_, _, _) from rfl) q_ml_L_172 q_im_yX11_thrown q_se_yX11_thrown q_in_X11 q_co_yX11_thrown ⟨by decide, by decide, by decide +kernel⟩ ⟨Nat.le_of_ble_eq_true rfl, Nat.le_of_ble_eq_true rfl⟩ (Nat.zero_le _) (Nat.le_refl _) (Nat.le_refl _) rfl rfl dl_1919 (fun v w9 hp => ?_) (fun E w9 hp => by obtain ⟨_, hq, _⟩ := hp; cases hq.1)
    obtain ⟨h9, ⟨hv, rfl⟩, _, rfl⟩ := hp
    have hv := Sum.inl.inj hv
    subst hv
    refine Wx_perm (fun a ha z => hd2' a z ha) ?_
    refine x_iload5 (pc := 1922) G dl_1922 ?_
    refine x_icmp_eq (pc := 1924) (tgt := 1929) G dl_1924 rfl (fun _ => ?_) (fun z9 => absurd hk z9)
    refine x_iload5 (pc := 1929) G dl_1929 ?_
    refine x_if_ne (pc := 1931) (tgt := 1946) (y := 0) G dl_1931 rfl (fun _ => ?_) (fun z9 => ?_)
    · skip
      refine x_goto (pc := 1946) (tgt := 3248) G dl_1946 rfl ?_
      exact Wx_l8 (hend X2 S2 _ f2 hL2)
    · have hf := hz z9
      refine x_aload3 (pc := 1934) G dl_1934 ?_
      refine x_iconst (pc := 1935) (v := 0) G dl_1935 (by decide) ?_
      refine x_old (pc := 1936) G hd1' dl_1936 ?_
      refine x_iload6 (pc := 1937) G dl_1937 ?_
      refine x_i2l (pc := 1939) G dl_1939 ?_
      refine x_lcmp (pc := 1940) G dl_1940 ?_
      refine x_if_eq (pc := 1941) (tgt := 1946) (y := 0) G dl_1941 rfl (fun _ => ?_) (fun z8 => absurd (lg_same hf) z8)
      refine x_goto (pc := 1946) (tgt := 3248) G dl_1946 rfl ?_
      exact Wx_l8 (hend X2 S2 _ f2 hL2)
  · skip
    refine x_aload1 (pc := 1865) G dl_1865 ?_
    refine x_aload0 (pc := 1866) G dl_1866 ?_
    refine x_iload4 (pc := 1867) G dl_1867 ?_
    refine x_iconst (pc := 1869) (v := 1) G dl_1869 (by decide) ?_
    refine x_iadd (pc := 1870) G dl_1870 ?_
    refine x_sld (pc := 1871) G hX hbl hbA hx1 dl_1871 ?_
    refine x_aload0 (pc := 1872) G dl_1872 ?_
    refine x_iload4 (pc := 1873) G dl_1873 ?_
    refine x_iconst (pc := 1875) (v := 2) G dl_1875 (by decide) ?_
    refine x_iadd (pc := 1876) G dl_1876 ?_
    refine x_sld (pc := 1877) G hX hbl hbA hx2 dl_1877 ?_
    refine x_if_eq (pc := 1878) (tgt := 1885) (y := 0) G dl_1878 rfl (fun z9 => absurd z9 hz0) (fun _ => ?_)
    refine x_iconst (pc := 1881) (v := 1) G dl_1881 (by decide) ?_
    refine x_goto (pc := 1882) (tgt := 1886) G dl_1882 rfl ?_
    refine x_aload3 (pc := 1886) G dl_1886 ?_
    have hC := kc_run (k := k) hl hI (p1 := (xs (nI i + 1).toNatClampNeg)) (p2 := 1)
    rw [hvr] at hC
    have hst := fun {o : Out} {w : Wd} => so_run (k := k) (o := o) (w := w) (p1 := (xs (nI i + 1).toNatClampNeg)) (p2 := 1) hI
    have hh := ch_run hl hbm hbf hd1 hC (fun o w hp => by
      obtain ⟨_, _, _, _, _, ⟨ho, _⟩ | ⟨E, he, _, hc⟩⟩ := hst hp
      · exact Or.inl ⟨_, ho⟩
      · exact Or.inr ⟨E, he, hc⟩)
    have hh := MI.frame hh hd2
    refine x_callSW (pc := 1887) (bc1 := bc1) (bs1 := bs1) (n := 4) (As := [.ref b, .int (xs (nI i + 1).toNatClampNeg), .int 1, .ref ao]) G hh q_ml_L_250 q_st_yL_run q_in_L q_cw_run ⟨by decide, by decide, by decide +kernel⟩ ⟨Nat.le_of_ble_eq_true rfl, Nat.le_of_ble_eq_true rfl⟩ (Nat.zero_le _) (Nat.le_refl _) (Nat.le_refl _) rfl rfl dl_1887 (fun v w9 hp => ?_)
    obtain ⟨X2, S2, f2, kc, rfl, hL2, hv, hk, hz⟩ : ∃ X2 S2 f2 kc, w9 = wu (wu (cW k X2 S2) (oW k ao f2)) (mW k mo ad M) ∧ LV9 k b X2 S2 ao f2 mo ad (f_run (xs (nI i + 1).toNatClampNeg) 1 M).2 ∧ v = some (.int kc) ∧ mI (f_run (xs (nI i + 1).toNatClampNeg) 1 M).2 0 = kc ∧ (kc = 0 → f2 0 = (f_run (xs (nI i + 1).toNatClampNeg) 1 M).1.toInt64) := by
      obtain ⟨h9, ⟨w1, f1, rfl, hd1', hpp⟩, hd2', rfl⟩ := hp
      rcases hpp with ⟨r, hp1, hv, hf⟩ | ⟨E, hp1, hv⟩
      · obtain ⟨X2, S2, rfl, hI2, hb2, ⟨ho, h0⟩ | ⟨E, he, _, _⟩⟩ := hst hp1
        · have e9 := Sum.inl.inj ho
          cases e9
          exact ⟨X2, S2, _, 0, rfl, ⟨hI2, hb2.trans hb, hd1', hd2'⟩, Sum.inl.inj hv, h0, fun _ => hf⟩
        · cases he
      · obtain ⟨X2, S2, rfl, hI2, hb2, ⟨ho, h0⟩ | ⟨E2, he, h0, hc⟩⟩ := hst hp1
        · cases ho
        · cases he
          refine ⟨X2, S2, _, _, rfl, ⟨hI2, hb2.trans hb, hd1', hd2'⟩, Sum.inl.inj hv, h0, fun z => ?_⟩
          rcases hc with rfl <;> exact absurd z (by decide)
    subst hv
    obtain ⟨hI2, hb2, hd1', hd2'⟩ := id hL2
    refine x_istore5 (pc := 1890) G dl_1890 (by decide) rfl ?_
    refine x_aload2 (pc := 1892) G dl_1892 ?_
    refine x_aload0 (pc := 1893) G dl_1893 ?_
    refine x_iload4 (pc := 1894) G dl_1894 ?_
    refine x_iconst (pc := 1896) (v := 1) G dl_1896 (by decide) ?_
    refine x_iadd (pc := 1897) G dl_1897 ?_
    refine x_sld (pc := 1898) G hX hbl hbA hx1 dl_1898 ?_
    refine x_aload0 (pc := 1899) G dl_1899 ?_
    refine x_iload4 (pc := 1900) G dl_1900 ?_
    refine x_iconst (pc := 1902) (v := 2) G dl_1902 (by decide) ?_
    refine x_iadd (pc := 1903) G dl_1903 ?_
    refine x_sld (pc := 1904) G hX hbl hbA hx2 dl_1904 ?_
    refine x_if_eq (pc := 1905) (tgt := 1912) (y := 0) G dl_1905 rfl (fun z9 => absurd z9 hz0) (fun _ => ?_)
    refine x_iconst (pc := 1908) (v := 1) G dl_1908 (by decide) ?_
    refine x_goto (pc := 1909) (tgt := 1913) G dl_1909 rfl ?_
    have hr := rc_run (k := k) hl hH hI.2.2.2 (p1 := (xs (nI i + 1).toNatClampNeg)) (p2 := 1)
    refine Wx_perm hd2' ?_
    refine x_callV (pc := 1913) (bc1 := bc1) (bs1 := bs1) (n := 2) (As := [.int (xs (nI i + 1).toNatClampNeg), .int 1]) G (hr.frame (fun a ha z => hd2' a z ha)) (List.mem_append_left _ mW_mo.1) ((if_pos mW_mo.1).trans mW_mo.2) (show vwCl[12]? = some (_, _, _) from rfl) q_ml_L_252 q_im_yX11_run q_se_yX11_run q_in_X11 q_co_yX11_run ⟨by decide, by decide, by decide +kernel⟩ ⟨Nat.le_of_ble_eq_true rfl, Nat.le_of_ble_eq_true rfl⟩ (Nat.zero_le _) (Nat.le_refl _) (Nat.le_refl _) rfl rfl dl_1913 (fun v w9 hp => ?_) (fun E w9 hp => by obtain ⟨_, hq, _⟩ := hp; cases hq.1)
    obtain ⟨h9, ⟨hv, rfl⟩, _, rfl⟩ := hp
    have hv := Sum.inl.inj hv
    subst hv
    refine Wx_perm (fun a ha z => hd2' a z ha) ?_
    refine x_istore6 (pc := 1916) G dl_1916 (by decide) rfl ?_
    refine x_aload2 (pc := 1918) G dl_1918 ?_
    refine Wx_perm hd2' ?_
    refine x_callV (pc := 1919) (bc1 := bc1) (bs1 := bs1) (n := 0) (As := []) G ((c_thrown (k := k) (M := (f_run (xs (nI i + 1).toNatClampNeg) 1 M).2) hl hH).frame (fun a ha z => hd2' a z ha)) (List.mem_append_left _ mW_mo.1) ((if_pos mW_mo.1).trans mW_mo.2) (show vwCl[12]? = some (_, _, _) from rfl) q_ml_L_172 q_im_yX11_thrown q_se_yX11_thrown q_in_X11 q_co_yX11_thrown ⟨by decide, by decide, by decide +kernel⟩ ⟨Nat.le_of_ble_eq_true rfl, Nat.le_of_ble_eq_true rfl⟩ (Nat.zero_le _) (Nat.le_refl _) (Nat.le_refl _) rfl rfl dl_1919 (fun v w9 hp => ?_) (fun E w9 hp => by obtain ⟨_, hq, _⟩ := hp; cases hq.1)
    obtain ⟨h9, ⟨hv, rfl⟩, _, rfl⟩ := hp
    have hv := Sum.inl.inj hv
    subst hv
    refine Wx_perm (fun a ha z => hd2' a z ha) ?_
    refine x_iload5 (pc := 1922) G dl_1922 ?_
    refine x_icmp_eq (pc := 1924) (tgt := 1929) G dl_1924 rfl (fun _ => ?_) (fun z9 => absurd hk z9)
    refine x_iload5 (pc := 1929) G dl_1929 ?_
    refine x_if_ne (pc := 1931) (tgt := 1946) (y := 0) G dl_1931 rfl (fun _ => ?_) (fun z9 => ?_)
    · skip
      refine x_goto (pc := 1946) (tgt := 3248) G dl_1946 rfl ?_
      exact Wx_l8 (hend X2 S2 _ f2 hL2)
    · have hf := hz z9
      refine x_aload3 (pc := 1934) G dl_1934 ?_
      refine x_iconst (pc := 1935) (v := 0) G dl_1935 (by decide) ?_
      refine x_old (pc := 1936) G hd1' dl_1936 ?_
      refine x_iload6 (pc := 1937) G dl_1937 ?_
      refine x_i2l (pc := 1939) G dl_1939 ?_
      refine x_lcmp (pc := 1940) G dl_1940 ?_
      refine x_if_eq (pc := 1941) (tgt := 1946) (y := 0) G dl_1941 rfl (fun _ => ?_) (fun z8 => absurd (lg_same hf) z8)
      refine x_goto (pc := 1946) (tgt := 3248) G dl_1946 rfl ?_
      exact Wx_l8 (hend X2 S2 _ f2 hL2)
theorem dl_1949 : decode cL_law 1949 = .ok (.aload_n 1, 1) := by decide +kernel
theorem dl_1950 : decode cL_law 1950 = .ok (.aload_n 0, 1) := by decide +kernel
theorem dl_1951 : decode cL_law 1951 = .ok (.iload 4, 2) := by decide +kernel
theorem dl_1953 : decode cL_law 1953 = .ok (.iconst 1, 1) := by decide +kernel
theorem dl_1954 : decode cL_law 1954 = .ok (.iadd, 1) := by decide +kernel
theorem dl_1955 : decode cL_law 1955 = .ok (.iaload, 1) := by decide +kernel
theorem dl_1956 : decode cL_law 1956 = .ok (.aload_n 3, 1) := by decide +kernel
theorem dl_1957 : decode cL_law 1957 = .ok (.invokestatic 253, 3) := by decide +kernel
theorem dl_1960 : decode cL_law 1960 = .ok (.istore 5, 2) := by decide +kernel
theorem dl_1962 : decode cL_law 1962 = .ok (.aload_n 2, 1) := by decide +kernel
theorem dl_1963 : decode cL_law 1963 = .ok (.aload_n 0, 1) := by decide +kernel
theorem dl_1964 : decode cL_law 1964 = .ok (.iload 4, 2) := by decide +kernel
theorem dl_1966 : decode cL_law 1966 = .ok (.iconst 1, 1) := by decide +kernel
theorem dl_1967 : decode cL_law 1967 = .ok (.iadd, 1) := by decide +kernel
theorem dl_1968 : decode cL_law 1968 = .ok (.iaload, 1) := by decide +kernel
theorem dl_1969 : decode cL_law 1969 = .ok (.invokevirtual 255, 3) := by decide +kernel
theorem dl_1972 : decode cL_law 1972 = .ok (.lstore 6, 2) := by decide +kernel
theorem dl_1974 : decode cL_law 1974 = .ok (.aload_n 2, 1) := by decide +kernel
theorem dl_1975 : decode cL_law 1975 = .ok (.invokevirtual 172, 3) := by decide +kernel
theorem dl_1978 : decode cL_law 1978 = .ok (.iload 5, 2) := by decide +kernel
theorem dl_1980 : decode cL_law 1980 = .ok (.if_icmp .eq 5, 3) := by decide +kernel
theorem dl_1983 : decode cL_law 1983 = .ok (.iconst 0, 1) := by decide +kernel
theorem dl_1984 : decode cL_law 1984 = .ok (.ireturn, 1) := by decide +kernel
theorem dl_1985 : decode cL_law 1985 = .ok (.iload 5, 2) := by decide +kernel
theorem dl_1987 : decode cL_law 1987 = .ok (.ifCond .ne 14, 3) := by decide +kernel
theorem dl_1990 : decode cL_law 1990 = .ok (.aload_n 3, 1) := by decide +kernel
theorem dl_1991 : decode cL_law 1991 = .ok (.iconst 0, 1) := by decide +kernel
theorem dl_1992 : decode cL_law 1992 = .ok (.laload, 1) := by decide +kernel
theorem dl_1993 : decode cL_law 1993 = .ok (.lload 6, 2) := by decide +kernel
theorem dl_1995 : decode cL_law 1995 = .ok (.lcmp, 1) := by decide +kernel
theorem dl_1996 : decode cL_law 1996 = .ok (.ifCond .eq 5, 3) := by decide +kernel
theorem dl_1999 : decode cL_law 1999 = .ok (.iconst 0, 1) := by decide +kernel
theorem dl_2000 : decode cL_law 2000 = .ok (.ireturn, 1) := by decide +kernel
theorem dl_2001 : decode cL_law 2001 = .ok (.goto 1247, 3) := by decide +kernel
set_option maxRecDepth 100000 in
set_option maxHeartbeats 4000000 in
theorem lk_bounce {p : Program} {l : Launch} {e : Env} {s : State} {m : MethodId} {args : Array Value} {below : List Frame} {meth : Method} {c : Code} {k : KC} {A : Nat → Prop} {Q : State → Prop} {bc1 bs1 b0 Ln b ao mo i : Nat} {xs : Nat → Int32} {ad : Nat → Nat} {f : Nat → Int64} {X : CX} {S : CT} {M : MS} {rt9 : Option FieldType} (hl : l.stackTraces = false) (G : GX p l room_1 s m args meth c k A RL cL_law 8 rt9) (hX : va_X b0 Ln xs s s.heap) (hbl : b0 < s.heap.size) (hbA : ¬ A b0) (hH : HM mo ad) (hi : i + 8 ≤ Ln) (hL : Ln ≤ 4096) (h : LV9 k b X S ao f mo ad M) (hend : ∀ X2 S2 M2 f2, LV9 k b X2 S2 ao f2 mo ad M2 → Wx p l e room_1 s m args below meth c k A 8 Q bc1 bs1 3248 [some (.ref b0), some (.ref b), some (.ref mo), some (.ref ao), some (.int (nI i)), none, none, none] [] (WL k X2 S2 ao f2 mo ad M2)) : Wx p l e room_1 s m args below meth c k A 8 Q (bc1 + 1) (bs1 + 6) 1949 [some (.ref b0), some (.ref b), some (.ref mo), some (.ref ao), some (.int (nI i)), none, none, none] [] (WL k X S ao f mo ad M) := by
  obtain ⟨hI, hb, hd1, hd2⟩ := h
  obtain ⟨hbm, fs, hbf⟩ := cw11 (k := k) (S := S) hI.1 hb
  have hvr := vr11 hb
  have hx1 : vp_in (nI i + 1) Ln := ix_in (j := 1) rfl (by omega) hL
  unfold WL
  refine x_aload1 (pc := 1949) G dl_1949 ?_
  refine x_aload0 (pc := 1950) G dl_1950 ?_
  refine x_iload4 (pc := 1951) G dl_1951 ?_
  refine x_iconst (pc := 1953) (v := 1) G dl_1953 (by decide) ?_
  refine x_iadd (pc := 1954) G dl_1954 ?_
  refine x_sld (pc := 1955) G hX hbl hbA hx1 dl_1955 ?_
  refine x_aload3 (pc := 1956) G dl_1956 ?_
  have hC := kc_bounce (k := k) hl hI (p1 := (xs (nI i + 1).toNatClampNeg))
  rw [hvr] at hC
  have hst := fun {o : Out} {w : Wd} => so_bounce (k := k) (o := o) (w := w) (p1 := (xs (nI i + 1).toNatClampNeg)) hI
  have hh := ch_bounce hl hbm hbf hd1 hC (fun o w hp => by
    obtain ⟨_, _, _, _, _, ⟨ho, _⟩ | ⟨E, he, _, hc⟩⟩ := hst hp
    · exact Or.inl ⟨_, ho⟩
    · exact Or.inr ⟨E, he, hc⟩)
  have hh := MI.frame hh hd2
  refine x_callSW (pc := 1957) (bc1 := bc1) (bs1 := bs1) (n := 3) (As := [.ref b, .int (xs (nI i + 1).toNatClampNeg), .ref ao]) G hh q_ml_L_253 q_st_yL_bounce q_in_L q_cw_bounce ⟨by decide, by decide, by decide +kernel⟩ ⟨Nat.le_of_ble_eq_true rfl, Nat.le_of_ble_eq_true rfl⟩ (Nat.zero_le _) (Nat.le_refl _) (Nat.le_refl _) rfl rfl dl_1957 (fun v w9 hp => ?_)
  obtain ⟨X2, S2, f2, kc, rfl, hL2, hv, hk, hz⟩ : ∃ X2 S2 f2 kc, w9 = wu (wu (cW k X2 S2) (oW k ao f2)) (mW k mo ad M) ∧ LV9 k b X2 S2 ao f2 mo ad (f_bounce (xs (nI i + 1).toNatClampNeg) M).2 ∧ v = some (.int kc) ∧ mI (f_bounce (xs (nI i + 1).toNatClampNeg) M).2 0 = kc ∧ (kc = 0 → f2 0 = (f_bounce (xs (nI i + 1).toNatClampNeg) M).1) := by
    obtain ⟨h9, ⟨w1, f1, rfl, hd1', hpp⟩, hd2', rfl⟩ := hp
    rcases hpp with ⟨r, hp1, hv, hf⟩ | ⟨E, hp1, hv⟩
    · obtain ⟨X2, S2, rfl, hI2, hb2, ⟨ho, h0⟩ | ⟨E, he, _, _⟩⟩ := hst hp1
      · have e9 := Sum.inl.inj ho
        cases e9
        exact ⟨X2, S2, _, 0, rfl, ⟨hI2, hb2.trans hb, hd1', hd2'⟩, Sum.inl.inj hv, h0, fun _ => hf⟩
      · cases he
    · obtain ⟨X2, S2, rfl, hI2, hb2, ⟨ho, h0⟩ | ⟨E2, he, h0, hc⟩⟩ := hst hp1
      · cases ho
      · cases he
        refine ⟨X2, S2, _, _, rfl, ⟨hI2, hb2.trans hb, hd1', hd2'⟩, Sum.inl.inj hv, h0, fun z => ?_⟩
        rcases hc with rfl | rfl <;> exact absurd z (by decide)
  subst hv
  obtain ⟨hI2, hb2, hd1', hd2'⟩ := id hL2
  refine x_istore5 (pc := 1960) G dl_1960 (by decide) rfl ?_
  refine x_aload2 (pc := 1962) G dl_1962 ?_
  refine x_aload0 (pc := 1963) G dl_1963 ?_
  refine x_iload4 (pc := 1964) G dl_1964 ?_
  refine x_iconst (pc := 1966) (v := 1) G dl_1966 (by decide) ?_
  refine x_iadd (pc := 1967) G dl_1967 ?_
  refine x_sld (pc := 1968) G hX hbl hbA hx1 dl_1968 ?_
  have hr := rc_bounce (k := k) hl hH hI.2.2.2 (p1 := (xs (nI i + 1).toNatClampNeg))
  refine Wx_perm hd2' ?_
  refine x_callV (pc := 1969) (bc1 := bc1) (bs1 := bs1) (n := 1) (As := [.int (xs (nI i + 1).toNatClampNeg)]) G (hr.frame (fun a ha z => hd2' a z ha)) (List.mem_append_left _ mW_mo.1) ((if_pos mW_mo.1).trans mW_mo.2) (show vwCl[12]? = some (_, _, _) from rfl) q_ml_L_255 q_im_yX11_bounce q_se_yX11_bounce q_in_X11 q_co_yX11_bounce ⟨by decide, by decide, by decide +kernel⟩ ⟨Nat.le_of_ble_eq_true rfl, Nat.le_of_ble_eq_true rfl⟩ (Nat.zero_le _) (Nat.le_refl _) (Nat.le_refl _) rfl rfl dl_1969 (fun v w9 hp => ?_) (fun E w9 hp => by obtain ⟨_, hq, _⟩ := hp; cases hq.1)
  obtain ⟨h9, ⟨hv, rfl⟩, _, rfl⟩ := hp
  have hv := Sum.inl.inj hv
  subst hv
  refine Wx_perm (fun a ha z => hd2' a z ha) ?_
  refine x_lstore6 (pc := 1972) G dl_1972 (by decide) rfl ?_
  refine x_aload2 (pc := 1974) G dl_1974 ?_
  refine Wx_perm hd2' ?_
  refine x_callV (pc := 1975) (bc1 := bc1) (bs1 := bs1) (n := 0) (As := []) G ((c_thrown (k := k) (M := (f_bounce (xs (nI i + 1).toNatClampNeg) M).2) hl hH).frame (fun a ha z => hd2' a z ha)) (List.mem_append_left _ mW_mo.1) ((if_pos mW_mo.1).trans mW_mo.2) (show vwCl[12]? = some (_, _, _) from rfl) q_ml_L_172 q_im_yX11_thrown q_se_yX11_thrown q_in_X11 q_co_yX11_thrown ⟨by decide, by decide, by decide +kernel⟩ ⟨Nat.le_of_ble_eq_true rfl, Nat.le_of_ble_eq_true rfl⟩ (Nat.zero_le _) (Nat.le_refl _) (Nat.le_refl _) rfl rfl dl_1975 (fun v w9 hp => ?_) (fun E w9 hp => by obtain ⟨_, hq, _⟩ := hp; cases hq.1)
  obtain ⟨h9, ⟨hv, rfl⟩, _, rfl⟩ := hp
  have hv := Sum.inl.inj hv
  subst hv
  refine Wx_perm (fun a ha z => hd2' a z ha) ?_
  refine x_iload5 (pc := 1978) G dl_1978 ?_
  refine x_icmp_eq (pc := 1980) (tgt := 1985) G dl_1980 rfl (fun _ => ?_) (fun z9 => absurd hk z9)
  refine x_iload5 (pc := 1985) G dl_1985 ?_
  refine x_if_ne (pc := 1987) (tgt := 2001) (y := 0) G dl_1987 rfl (fun _ => ?_) (fun z9 => ?_)
  · skip
    refine x_goto (pc := 2001) (tgt := 3248) G dl_2001 rfl ?_
    exact Wx_l8 (hend X2 S2 _ f2 hL2)
  · have hf := hz z9
    refine x_aload3 (pc := 1990) G dl_1990 ?_
    refine x_iconst (pc := 1991) (v := 0) G dl_1991 (by decide) ?_
    refine x_old (pc := 1992) G hd1' dl_1992 ?_
    refine x_lload6 (pc := 1993) G dl_1993 ?_
    refine x_lcmp (pc := 1995) G dl_1995 ?_
    refine x_if_eq (pc := 1996) (tgt := 2001) (y := 0) G dl_1996 rfl (fun _ => ?_) (fun z8 => absurd (lg_same hf) z8)
    refine x_goto (pc := 2001) (tgt := 3248) G dl_2001 rfl ?_
    exact Wx_l8 (hend X2 S2 _ f2 hL2)
theorem dl_2004 : decode cL_law 2004 = .ok (.aload_n 1, 1) := by decide +kernel
theorem dl_2005 : decode cL_law 2005 = .ok (.aload_n 0, 1) := by decide +kernel
theorem dl_2006 : decode cL_law 2006 = .ok (.iload 4, 2) := by decide +kernel
theorem dl_2008 : decode cL_law 2008 = .ok (.iconst 1, 1) := by decide +kernel
theorem dl_2009 : decode cL_law 2009 = .ok (.iadd, 1) := by decide +kernel
theorem dl_2010 : decode cL_law 2010 = .ok (.iaload, 1) := by decide +kernel
theorem dl_2011 : decode cL_law 2011 = .ok (.invokestatic 256, 3) := by decide +kernel
theorem dl_2014 : decode cL_law 2014 = .ok (.istore 5, 2) := by decide +kernel
theorem dl_2016 : decode cL_law 2016 = .ok (.aload_n 2, 1) := by decide +kernel
theorem dl_2017 : decode cL_law 2017 = .ok (.aload_n 0, 1) := by decide +kernel
theorem dl_2018 : decode cL_law 2018 = .ok (.iload 4, 2) := by decide +kernel
theorem dl_2020 : decode cL_law 2020 = .ok (.iconst 1, 1) := by decide +kernel
theorem dl_2021 : decode cL_law 2021 = .ok (.iadd, 1) := by decide +kernel
theorem dl_2022 : decode cL_law 2022 = .ok (.iaload, 1) := by decide +kernel
theorem dl_2023 : decode cL_law 2023 = .ok (.invokevirtual 259, 3) := by decide +kernel
theorem dl_2026 : decode cL_law 2026 = .ok (.aload_n 2, 1) := by decide +kernel
theorem dl_2027 : decode cL_law 2027 = .ok (.invokevirtual 172, 3) := by decide +kernel
theorem dl_2030 : decode cL_law 2030 = .ok (.iload 5, 2) := by decide +kernel
theorem dl_2032 : decode cL_law 2032 = .ok (.if_icmp .eq 5, 3) := by decide +kernel
theorem dl_2035 : decode cL_law 2035 = .ok (.iconst 0, 1) := by decide +kernel
theorem dl_2036 : decode cL_law 2036 = .ok (.ireturn, 1) := by decide +kernel
theorem dl_2037 : decode cL_law 2037 = .ok (.goto 1211, 3) := by decide +kernel
set_option maxRecDepth 100000 in
set_option maxHeartbeats 4000000 in
theorem lk_goOn {p : Program} {l : Launch} {e : Env} {s : State} {m : MethodId} {args : Array Value} {below : List Frame} {meth : Method} {c : Code} {k : KC} {A : Nat → Prop} {Q : State → Prop} {bc1 bs1 b0 Ln b ao mo i : Nat} {xs : Nat → Int32} {ad : Nat → Nat} {f : Nat → Int64} {X : CX} {S : CT} {M : MS} {rt9 : Option FieldType} (hl : l.stackTraces = false) (G : GX p l room_1 s m args meth c k A RL cL_law 8 rt9) (hX : va_X b0 Ln xs s s.heap) (hbl : b0 < s.heap.size) (hbA : ¬ A b0) (hH : HM mo ad) (hi : i + 8 ≤ Ln) (hL : Ln ≤ 4096) (h : LV9 k b X S ao f mo ad M) (hend : ∀ X2 S2 M2 f2, LV9 k b X2 S2 ao f2 mo ad M2 → Wx p l e room_1 s m args below meth c k A 8 Q bc1 bs1 3248 [some (.ref b0), some (.ref b), some (.ref mo), some (.ref ao), some (.int (nI i)), none, none, none] [] (WL k X2 S2 ao f2 mo ad M2)) : Wx p l e room_1 s m args below meth c k A 8 Q (bc1 + 1) (bs1 + 6) 2004 [some (.ref b0), some (.ref b), some (.ref mo), some (.ref ao), some (.int (nI i)), none, none, none] [] (WL k X S ao f mo ad M) := by
  obtain ⟨hI, hb, hd1, hd2⟩ := h
  obtain ⟨hbm, fs, hbf⟩ := cw11 (k := k) (S := S) hI.1 hb
  have hvr := vr11 hb
  have hx1 : vp_in (nI i + 1) Ln := ix_in (j := 1) rfl (by omega) hL
  unfold WL
  refine x_aload1 (pc := 2004) G dl_2004 ?_
  refine x_aload0 (pc := 2005) G dl_2005 ?_
  refine x_iload4 (pc := 2006) G dl_2006 ?_
  refine x_iconst (pc := 2008) (v := 1) G dl_2008 (by decide) ?_
  refine x_iadd (pc := 2009) G dl_2009 ?_
  refine x_sld (pc := 2010) G hX hbl hbA hx1 dl_2010 ?_
  have hC := kc_goOn (k := k) hl hI (p1 := (xs (nI i + 1).toNatClampNeg))
  rw [hvr] at hC
  have hst := fun {o : Out} {w : Wd} => so_goOn (k := k) (o := o) (w := w) (p1 := (xs (nI i + 1).toNatClampNeg)) hI
  have hh := ch_goOn hl hbm hbf hC (fun o w hp => by
    obtain ⟨_, _, _, _, _, ⟨ho, _⟩ | ⟨E, he, _, hc⟩⟩ := hst hp
    · exact Or.inl ho
    · exact Or.inr ⟨E, he, hc⟩)
  have hh := MI.frame hh hd1
  have hh := MI.frame hh hd2
  refine x_callSW (pc := 2011) (bc1 := bc1) (bs1 := bs1) (n := 2) (As := [.ref b, .int (xs (nI i + 1).toNatClampNeg)]) G hh q_ml_L_256 q_st_yL_goOn q_in_L q_cw_goOn ⟨by decide, by decide, by decide +kernel⟩ ⟨Nat.le_of_ble_eq_true rfl, Nat.le_of_ble_eq_true rfl⟩ (Nat.zero_le _) (Nat.le_refl _) (Nat.le_refl _) rfl rfl dl_2011 (fun v w9 hp => ?_)
  obtain ⟨X2, S2, f2, kc, rfl, hL2, hv, hk, hz⟩ : ∃ X2 S2 f2 kc, w9 = wu (wu (cW k X2 S2) (oW k ao f2)) (mW k mo ad M) ∧ LV9 k b X2 S2 ao f2 mo ad (f_goOn (xs (nI i + 1).toNatClampNeg) M) ∧ v = some (.int kc) ∧ mI (f_goOn (xs (nI i + 1).toNatClampNeg) M) 0 = kc ∧ (kc = 0 → True) := by
    obtain ⟨h9, ⟨h8, ⟨w1, rfl, hpp⟩, hd1', rfl⟩, hd2', rfl⟩ := hp
    rcases hpp with ⟨hp1, hv⟩ | ⟨E, hp1, hv⟩
    · obtain ⟨X2, S2, rfl, hI2, hb2, ⟨ho, h0⟩ | ⟨E, he, _, _⟩⟩ := hst hp1
      · exact ⟨X2, S2, _, 0, rfl, ⟨hI2, hb2.trans hb, hd1', hd2'⟩, Sum.inl.inj hv, h0, fun _ => trivial⟩
      · cases he
    · obtain ⟨X2, S2, rfl, hI2, hb2, ⟨ho, h0⟩ | ⟨E2, he, h0, hc⟩⟩ := hst hp1
      · cases ho
      · cases he
        refine ⟨X2, S2, _, _, rfl, ⟨hI2, hb2.trans hb, hd1', hd2'⟩, Sum.inl.inj hv, h0, fun z => ?_⟩
        rcases hc with rfl | rfl <;> exact absurd z (by decide)
  subst hv
  obtain ⟨hI2, hb2, hd1', hd2'⟩ := id hL2
  refine x_istore5 (pc := 2014) G dl_2014 (by decide) rfl ?_
  refine x_aload2 (pc := 2016) G dl_2016 ?_
  refine x_aload0 (pc := 2017) G dl_2017 ?_
  refine x_iload4 (pc := 2018) G dl_2018 ?_
  refine x_iconst (pc := 2020) (v := 1) G dl_2020 (by decide) ?_
  refine x_iadd (pc := 2021) G dl_2021 ?_
  refine x_sld (pc := 2022) G hX hbl hbA hx1 dl_2022 ?_
  have hr := rc_goOn (k := k) hl hH hI.2.2.2 (p1 := (xs (nI i + 1).toNatClampNeg))
  refine Wx_perm hd2' ?_
  refine x_callV (pc := 2023) (bc1 := bc1) (bs1 := bs1) (n := 1) (As := [.int (xs (nI i + 1).toNatClampNeg)]) G (hr.frame (fun a ha z => hd2' a z ha)) (List.mem_append_left _ mW_mo.1) ((if_pos mW_mo.1).trans mW_mo.2) (show vwCl[12]? = some (_, _, _) from rfl) q_ml_L_259 q_im_yX11_goOn q_se_yX11_goOn q_in_X11 q_co_yX11_goOn ⟨by decide, by decide, by decide +kernel⟩ ⟨Nat.le_of_ble_eq_true rfl, Nat.le_of_ble_eq_true rfl⟩ (Nat.zero_le _) (Nat.le_refl _) (Nat.le_refl _) rfl rfl dl_2023 (fun v w9 hp => ?_) (fun E w9 hp => by obtain ⟨_, hq, _⟩ := hp; cases hq.1)
  obtain ⟨h9, ⟨hv, rfl⟩, _, rfl⟩ := hp
  have hv := Sum.inl.inj hv
  subst hv
  refine Wx_perm (fun a ha z => hd2' a z ha) ?_
  refine x_aload2 (pc := 2026) G dl_2026 ?_
  refine Wx_perm hd2' ?_
  refine x_callV (pc := 2027) (bc1 := bc1) (bs1 := bs1) (n := 0) (As := []) G ((c_thrown (k := k) (M := (f_goOn (xs (nI i + 1).toNatClampNeg) M)) hl hH).frame (fun a ha z => hd2' a z ha)) (List.mem_append_left _ mW_mo.1) ((if_pos mW_mo.1).trans mW_mo.2) (show vwCl[12]? = some (_, _, _) from rfl) q_ml_L_172 q_im_yX11_thrown q_se_yX11_thrown q_in_X11 q_co_yX11_thrown ⟨by decide, by decide, by decide +kernel⟩ ⟨Nat.le_of_ble_eq_true rfl, Nat.le_of_ble_eq_true rfl⟩ (Nat.zero_le _) (Nat.le_refl _) (Nat.le_refl _) rfl rfl dl_2027 (fun v w9 hp => ?_) (fun E w9 hp => by obtain ⟨_, hq, _⟩ := hp; cases hq.1)
  obtain ⟨h9, ⟨hv, rfl⟩, _, rfl⟩ := hp
  have hv := Sum.inl.inj hv
  subst hv
  refine Wx_perm (fun a ha z => hd2' a z ha) ?_
  refine x_iload5 (pc := 2030) G dl_2030 ?_
  refine x_icmp_eq (pc := 2032) (tgt := 2037) G dl_2032 rfl (fun _ => ?_) (fun z9 => absurd hk z9)
  refine x_goto (pc := 2037) (tgt := 3248) G dl_2037 rfl ?_
  exact Wx_l8 (hend X2 S2 _ f2 hL2)
theorem dl_2040 : decode cL_law 2040 = .ok (.aload_n 1, 1) := by decide +kernel
theorem dl_2041 : decode cL_law 2041 = .ok (.aload_n 0, 1) := by decide +kernel
theorem dl_2042 : decode cL_law 2042 = .ok (.iload 4, 2) := by decide +kernel
theorem dl_2044 : decode cL_law 2044 = .ok (.iconst 1, 1) := by decide +kernel
theorem dl_2045 : decode cL_law 2045 = .ok (.iadd, 1) := by decide +kernel
theorem dl_2046 : decode cL_law 2046 = .ok (.iaload, 1) := by decide +kernel
theorem dl_2047 : decode cL_law 2047 = .ok (.aload_n 0, 1) := by decide +kernel
theorem dl_2048 : decode cL_law 2048 = .ok (.iload 4, 2) := by decide +kernel
theorem dl_2050 : decode cL_law 2050 = .ok (.iconst 2, 1) := by decide +kernel
theorem dl_2051 : decode cL_law 2051 = .ok (.iadd, 1) := by decide +kernel
theorem dl_2052 : decode cL_law 2052 = .ok (.iaload, 1) := by decide +kernel
theorem dl_2053 : decode cL_law 2053 = .ok (.aload_n 3, 1) := by decide +kernel
theorem dl_2054 : decode cL_law 2054 = .ok (.invokestatic 260, 3) := by decide +kernel
theorem dl_2057 : decode cL_law 2057 = .ok (.istore 5, 2) := by decide +kernel
theorem dl_2059 : decode cL_law 2059 = .ok (.aload_n 2, 1) := by decide +kernel
theorem dl_2060 : decode cL_law 2060 = .ok (.aload_n 0, 1) := by decide +kernel
theorem dl_2061 : decode cL_law 2061 = .ok (.iload 4, 2) := by decide +kernel
theorem dl_2063 : decode cL_law 2063 = .ok (.iconst 1, 1) := by decide +kernel
theorem dl_2064 : decode cL_law 2064 = .ok (.iadd, 1) := by decide +kernel
theorem dl_2065 : decode cL_law 2065 = .ok (.iaload, 1) := by decide +kernel
theorem dl_2066 : decode cL_law 2066 = .ok (.aload_n 0, 1) := by decide +kernel
theorem dl_2067 : decode cL_law 2067 = .ok (.iload 4, 2) := by decide +kernel
theorem dl_2069 : decode cL_law 2069 = .ok (.iconst 2, 1) := by decide +kernel
theorem dl_2070 : decode cL_law 2070 = .ok (.iadd, 1) := by decide +kernel
theorem dl_2071 : decode cL_law 2071 = .ok (.iaload, 1) := by decide +kernel
theorem dl_2072 : decode cL_law 2072 = .ok (.invokevirtual 262, 3) := by decide +kernel
theorem dl_2075 : decode cL_law 2075 = .ok (.istore 6, 2) := by decide +kernel
theorem dl_2077 : decode cL_law 2077 = .ok (.aload_n 2, 1) := by decide +kernel
theorem dl_2078 : decode cL_law 2078 = .ok (.invokevirtual 172, 3) := by decide +kernel
theorem dl_2081 : decode cL_law 2081 = .ok (.iload 5, 2) := by decide +kernel
theorem dl_2083 : decode cL_law 2083 = .ok (.if_icmp .eq 5, 3) := by decide +kernel
theorem dl_2086 : decode cL_law 2086 = .ok (.iconst 0, 1) := by decide +kernel
theorem dl_2087 : decode cL_law 2087 = .ok (.ireturn, 1) := by decide +kernel
theorem dl_2088 : decode cL_law 2088 = .ok (.iload 5, 2) := by decide +kernel
theorem dl_2090 : decode cL_law 2090 = .ok (.ifCond .ne 15, 3) := by decide +kernel
theorem dl_2093 : decode cL_law 2093 = .ok (.aload_n 3, 1) := by decide +kernel
theorem dl_2094 : decode cL_law 2094 = .ok (.iconst 0, 1) := by decide +kernel
theorem dl_2095 : decode cL_law 2095 = .ok (.laload, 1) := by decide +kernel
theorem dl_2096 : decode cL_law 2096 = .ok (.iload 6, 2) := by decide +kernel
theorem dl_2098 : decode cL_law 2098 = .ok (.i2l, 1) := by decide +kernel
theorem dl_2099 : decode cL_law 2099 = .ok (.lcmp, 1) := by decide +kernel
theorem dl_2100 : decode cL_law 2100 = .ok (.ifCond .eq 5, 3) := by decide +kernel
theorem dl_2103 : decode cL_law 2103 = .ok (.iconst 0, 1) := by decide +kernel
theorem dl_2104 : decode cL_law 2104 = .ok (.ireturn, 1) := by decide +kernel
theorem dl_2105 : decode cL_law 2105 = .ok (.goto 1143, 3) := by decide +kernel
set_option maxRecDepth 100000 in
set_option maxHeartbeats 4000000 in
theorem lk_place {p : Program} {l : Launch} {e : Env} {s : State} {m : MethodId} {args : Array Value} {below : List Frame} {meth : Method} {c : Code} {k : KC} {A : Nat → Prop} {Q : State → Prop} {bc1 bs1 b0 Ln b ao mo i : Nat} {xs : Nat → Int32} {ad : Nat → Nat} {f : Nat → Int64} {X : CX} {S : CT} {M : MS} {rt9 : Option FieldType} (hl : l.stackTraces = false) (G : GX p l room_1 s m args meth c k A RL cL_law 8 rt9) (hX : va_X b0 Ln xs s s.heap) (hbl : b0 < s.heap.size) (hbA : ¬ A b0) (hH : HM mo ad) (hi : i + 8 ≤ Ln) (hL : Ln ≤ 4096) (h : LV9 k b X S ao f mo ad M) (hend : ∀ X2 S2 M2 f2, LV9 k b X2 S2 ao f2 mo ad M2 → Wx p l e room_1 s m args below meth c k A 8 Q bc1 bs1 3248 [some (.ref b0), some (.ref b), some (.ref mo), some (.ref ao), some (.int (nI i)), none, none, none] [] (WL k X2 S2 ao f2 mo ad M2)) : Wx p l e room_1 s m args below meth c k A 8 Q (bc1 + 1) (bs1 + 6) 2040 [some (.ref b0), some (.ref b), some (.ref mo), some (.ref ao), some (.int (nI i)), none, none, none] [] (WL k X S ao f mo ad M) := by
  obtain ⟨hI, hb, hd1, hd2⟩ := h
  obtain ⟨hbm, fs, hbf⟩ := cw11 (k := k) (S := S) hI.1 hb
  have hvr := vr11 hb
  have hx1 : vp_in (nI i + 1) Ln := ix_in (j := 1) rfl (by omega) hL
  have hx2 : vp_in (nI i + 2) Ln := ix_in (j := 2) rfl (by omega) hL
  unfold WL
  refine x_aload1 (pc := 2040) G dl_2040 ?_
  refine x_aload0 (pc := 2041) G dl_2041 ?_
  refine x_iload4 (pc := 2042) G dl_2042 ?_
  refine x_iconst (pc := 2044) (v := 1) G dl_2044 (by decide) ?_
  refine x_iadd (pc := 2045) G dl_2045 ?_
  refine x_sld (pc := 2046) G hX hbl hbA hx1 dl_2046 ?_
  refine x_aload0 (pc := 2047) G dl_2047 ?_
  refine x_iload4 (pc := 2048) G dl_2048 ?_
  refine x_iconst (pc := 2050) (v := 2) G dl_2050 (by decide) ?_
  refine x_iadd (pc := 2051) G dl_2051 ?_
  refine x_sld (pc := 2052) G hX hbl hbA hx2 dl_2052 ?_
  refine x_aload3 (pc := 2053) G dl_2053 ?_
  have hC := kc_place (k := k) hl hI (p1 := (xs (nI i + 1).toNatClampNeg)) (p2 := (xs (nI i + 2).toNatClampNeg))
  rw [hvr] at hC
  have hst := fun {o : Out} {w : Wd} => so_place (k := k) (o := o) (w := w) (p1 := (xs (nI i + 1).toNatClampNeg)) (p2 := (xs (nI i + 2).toNatClampNeg)) hI
  have hh := ch_place hl hbm hbf hd1 hC (fun o w hp => by
    obtain ⟨_, _, _, _, _, ⟨ho, _⟩ | ⟨E, he, _, hc⟩⟩ := hst hp
    · exact Or.inl ⟨_, ho⟩
    · exact Or.inr ⟨E, he, hc⟩)
  have hh := MI.frame hh hd2
  refine x_callSW (pc := 2054) (bc1 := bc1) (bs1 := bs1) (n := 4) (As := [.ref b, .int (xs (nI i + 1).toNatClampNeg), .int (xs (nI i + 2).toNatClampNeg), .ref ao]) G hh q_ml_L_260 q_st_yL_place q_in_L q_cw_place ⟨by decide, by decide, by decide +kernel⟩ ⟨Nat.le_of_ble_eq_true rfl, Nat.le_of_ble_eq_true rfl⟩ (Nat.zero_le _) (Nat.le_refl _) (Nat.le_refl _) rfl rfl dl_2054 (fun v w9 hp => ?_)
  obtain ⟨X2, S2, f2, kc, rfl, hL2, hv, hk, hz⟩ : ∃ X2 S2 f2 kc, w9 = wu (wu (cW k X2 S2) (oW k ao f2)) (mW k mo ad M) ∧ LV9 k b X2 S2 ao f2 mo ad (f_place (xs (nI i + 1).toNatClampNeg) (xs (nI i + 2).toNatClampNeg) M).2 ∧ v = some (.int kc) ∧ mI (f_place (xs (nI i + 1).toNatClampNeg) (xs (nI i + 2).toNatClampNeg) M).2 0 = kc ∧ (kc = 0 → f2 0 = (f_place (xs (nI i + 1).toNatClampNeg) (xs (nI i + 2).toNatClampNeg) M).1.toInt64) := by
    obtain ⟨h9, ⟨w1, f1, rfl, hd1', hpp⟩, hd2', rfl⟩ := hp
    rcases hpp with ⟨r, hp1, hv, hf⟩ | ⟨E, hp1, hv⟩
    · obtain ⟨X2, S2, rfl, hI2, hb2, ⟨ho, h0⟩ | ⟨E, he, _, _⟩⟩ := hst hp1
      · have e9 := Sum.inl.inj ho
        cases e9
        exact ⟨X2, S2, _, 0, rfl, ⟨hI2, hb2.trans hb, hd1', hd2'⟩, Sum.inl.inj hv, h0, fun _ => hf⟩
      · cases he
    · obtain ⟨X2, S2, rfl, hI2, hb2, ⟨ho, h0⟩ | ⟨E2, he, h0, hc⟩⟩ := hst hp1
      · cases ho
      · cases he
        refine ⟨X2, S2, _, _, rfl, ⟨hI2, hb2.trans hb, hd1', hd2'⟩, Sum.inl.inj hv, h0, fun z => ?_⟩
        rcases hc with rfl | rfl <;> exact absurd z (by decide)
  subst hv
  obtain ⟨hI2, hb2, hd1', hd2'⟩ := id hL2
  refine x_istore5 (pc := 2057) G dl_2057 (by decide) rfl ?_
  refine x_aload2 (pc := 2059) G dl_2059 ?_
  refine x_aload0 (pc := 2060) G dl_2060 ?_
  refine x_iload4 (pc := 2061) G dl_2061 ?_
  refine x_iconst (pc := 2063) (v := 1) G dl_2063 (by decide) ?_
  refine x_iadd (pc := 2064) G dl_2064 ?_
  refine x_sld (pc := 2065) G hX hbl hbA hx1 dl_2065 ?_
  refine x_aload0 (pc := 2066) G dl_2066 ?_
  refine x_iload4 (pc := 2067) G dl_2067 ?_
  refine x_iconst (pc := 2069) (v := 2) G dl_2069 (by decide) ?_
  refine x_iadd (pc := 2070) G dl_2070 ?_
  refine x_sld (pc := 2071) G hX hbl hbA hx2 dl_2071 ?_
  have hr := rc_place (k := k) hl hH hI.2.2.2 (p1 := (xs (nI i + 1).toNatClampNeg)) (p2 := (xs (nI i + 2).toNatClampNeg))
  refine Wx_perm hd2' ?_
  refine x_callV (pc := 2072) (bc1 := bc1) (bs1 := bs1) (n := 2) (As := [.int (xs (nI i + 1).toNatClampNeg), .int (xs (nI i + 2).toNatClampNeg)]) G (hr.frame (fun a ha z => hd2' a z ha)) (List.mem_append_left _ mW_mo.1) ((if_pos mW_mo.1).trans mW_mo.2) (show vwCl[12]? = some (_, _, _) from rfl) q_ml_L_262 q_im_yX11_place q_se_yX11_place q_in_X11 q_co_yX11_place ⟨by decide, by decide, by decide +kernel⟩ ⟨Nat.le_of_ble_eq_true rfl, Nat.le_of_ble_eq_true rfl⟩ (Nat.zero_le _) (Nat.le_refl _) (Nat.le_refl _) rfl rfl dl_2072 (fun v w9 hp => ?_) (fun E w9 hp => by obtain ⟨_, hq, _⟩ := hp; cases hq.1)
  obtain ⟨h9, ⟨hv, rfl⟩, _, rfl⟩ := hp
  have hv := Sum.inl.inj hv
  subst hv
  refine Wx_perm (fun a ha z => hd2' a z ha) ?_
  refine x_istore6 (pc := 2075) G dl_2075 (by decide) rfl ?_
  refine x_aload2 (pc := 2077) G dl_2077 ?_
  refine Wx_perm hd2' ?_
  refine x_callV (pc := 2078) (bc1 := bc1) (bs1 := bs1) (n := 0) (As := []) G ((c_thrown (k := k) (M := (f_place (xs (nI i + 1).toNatClampNeg) (xs (nI i + 2).toNatClampNeg) M).2) hl hH).frame (fun a ha z => hd2' a z ha)) (List.mem_append_left _ mW_mo.1) ((if_pos mW_mo.1).trans mW_mo.2) (show vwCl[12]? = some (_, _, _) from rfl) q_ml_L_172 q_im_yX11_thrown q_se_yX11_thrown q_in_X11 q_co_yX11_thrown ⟨by decide, by decide, by decide +kernel⟩ ⟨Nat.le_of_ble_eq_true rfl, Nat.le_of_ble_eq_true rfl⟩ (Nat.zero_le _) (Nat.le_refl _) (Nat.le_refl _) rfl rfl dl_2078 (fun v w9 hp => ?_) (fun E w9 hp => by obtain ⟨_, hq, _⟩ := hp; cases hq.1)
  obtain ⟨h9, ⟨hv, rfl⟩, _, rfl⟩ := hp
  have hv := Sum.inl.inj hv
  subst hv
  refine Wx_perm (fun a ha z => hd2' a z ha) ?_
  refine x_iload5 (pc := 2081) G dl_2081 ?_
  refine x_icmp_eq (pc := 2083) (tgt := 2088) G dl_2083 rfl (fun _ => ?_) (fun z9 => absurd hk z9)
  refine x_iload5 (pc := 2088) G dl_2088 ?_
  refine x_if_ne (pc := 2090) (tgt := 2105) (y := 0) G dl_2090 rfl (fun _ => ?_) (fun z9 => ?_)
  · skip
    refine x_goto (pc := 2105) (tgt := 3248) G dl_2105 rfl ?_
    exact Wx_l8 (hend X2 S2 _ f2 hL2)
  · have hf := hz z9
    refine x_aload3 (pc := 2093) G dl_2093 ?_
    refine x_iconst (pc := 2094) (v := 0) G dl_2094 (by decide) ?_
    refine x_old (pc := 2095) G hd1' dl_2095 ?_
    refine x_iload6 (pc := 2096) G dl_2096 ?_
    refine x_i2l (pc := 2098) G dl_2098 ?_
    refine x_lcmp (pc := 2099) G dl_2099 ?_
    refine x_if_eq (pc := 2100) (tgt := 2105) (y := 0) G dl_2100 rfl (fun _ => ?_) (fun z8 => absurd (lg_same hf) z8)
    refine x_goto (pc := 2105) (tgt := 3248) G dl_2105 rfl ?_
    exact Wx_l8 (hend X2 S2 _ f2 hL2)
theorem dl_2108 : decode cL_law 2108 = .ok (.aload_n 1, 1) := by decide +kernel
theorem dl_2109 : decode cL_law 2109 = .ok (.aload_n 0, 1) := by decide +kernel
theorem dl_2110 : decode cL_law 2110 = .ok (.iload 4, 2) := by decide +kernel
theorem dl_2112 : decode cL_law 2112 = .ok (.iconst 1, 1) := by decide +kernel
theorem dl_2113 : decode cL_law 2113 = .ok (.iadd, 1) := by decide +kernel
theorem dl_2114 : decode cL_law 2114 = .ok (.iaload, 1) := by decide +kernel
theorem dl_2115 : decode cL_law 2115 = .ok (.aload_n 0, 1) := by decide +kernel
theorem dl_2116 : decode cL_law 2116 = .ok (.iload 4, 2) := by decide +kernel
theorem dl_2118 : decode cL_law 2118 = .ok (.iconst 2, 1) := by decide +kernel
theorem dl_2119 : decode cL_law 2119 = .ok (.iadd, 1) := by decide +kernel
theorem dl_2120 : decode cL_law 2120 = .ok (.iaload, 1) := by decide +kernel
theorem dl_2121 : decode cL_law 2121 = .ok (.aload_n 0, 1) := by decide +kernel
theorem dl_2122 : decode cL_law 2122 = .ok (.iload 4, 2) := by decide +kernel
theorem dl_2124 : decode cL_law 2124 = .ok (.iconst 3, 1) := by decide +kernel
theorem dl_2125 : decode cL_law 2125 = .ok (.iadd, 1) := by decide +kernel
theorem dl_2126 : decode cL_law 2126 = .ok (.iaload, 1) := by decide +kernel
theorem dl_2127 : decode cL_law 2127 = .ok (.aload_n 0, 1) := by decide +kernel
theorem dl_2128 : decode cL_law 2128 = .ok (.iload 4, 2) := by decide +kernel
theorem dl_2130 : decode cL_law 2130 = .ok (.iconst 4, 1) := by decide +kernel
theorem dl_2131 : decode cL_law 2131 = .ok (.iadd, 1) := by decide +kernel
theorem dl_2132 : decode cL_law 2132 = .ok (.iaload, 1) := by decide +kernel
theorem dl_2133 : decode cL_law 2133 = .ok (.aload_n 0, 1) := by decide +kernel
theorem dl_2134 : decode cL_law 2134 = .ok (.iload 4, 2) := by decide +kernel
theorem dl_2136 : decode cL_law 2136 = .ok (.iconst 5, 1) := by decide +kernel
theorem dl_2137 : decode cL_law 2137 = .ok (.iadd, 1) := by decide +kernel
theorem dl_2138 : decode cL_law 2138 = .ok (.iaload, 1) := by decide +kernel
theorem dl_2139 : decode cL_law 2139 = .ok (.aload_n 0, 1) := by decide +kernel
theorem dl_2140 : decode cL_law 2140 = .ok (.iload 4, 2) := by decide +kernel
theorem dl_2142 : decode cL_law 2142 = .ok (.bipush 6, 2) := by decide +kernel
theorem dl_2144 : decode cL_law 2144 = .ok (.iadd, 1) := by decide +kernel
theorem dl_2145 : decode cL_law 2145 = .ok (.iaload, 1) := by decide +kernel
theorem dl_2146 : decode cL_law 2146 = .ok (.aload_n 0, 1) := by decide +kernel
theorem dl_2147 : decode cL_law 2147 = .ok (.iload 4, 2) := by decide +kernel
theorem dl_2149 : decode cL_law 2149 = .ok (.bipush 7, 2) := by decide +kernel
theorem dl_2151 : decode cL_law 2151 = .ok (.iadd, 1) := by decide +kernel
theorem dl_2152 : decode cL_law 2152 = .ok (.iaload, 1) := by decide +kernel
theorem dl_2153 : decode cL_law 2153 = .ok (.aload_n 3, 1) := by decide +kernel
theorem dl_2154 : decode cL_law 2154 = .ok (.invokestatic 263, 3) := by decide +kernel
theorem dl_2157 : decode cL_law 2157 = .ok (.istore 5, 2) := by decide +kernel
theorem dl_2159 : decode cL_law 2159 = .ok (.aload_n 2, 1) := by decide +kernel
theorem dl_2160 : decode cL_law 2160 = .ok (.aload_n 0, 1) := by decide +kernel
theorem dl_2161 : decode cL_law 2161 = .ok (.iload 4, 2) := by decide +kernel
theorem dl_2163 : decode cL_law 2163 = .ok (.iconst 1, 1) := by decide +kernel
theorem dl_2164 : decode cL_law 2164 = .ok (.iadd, 1) := by decide +kernel
theorem dl_2165 : decode cL_law 2165 = .ok (.iaload, 1) := by decide +kernel
theorem dl_2166 : decode cL_law 2166 = .ok (.aload_n 0, 1) := by decide +kernel
theorem dl_2167 : decode cL_law 2167 = .ok (.iload 4, 2) := by decide +kernel
theorem dl_2169 : decode cL_law 2169 = .ok (.iconst 2, 1) := by decide +kernel
theorem dl_2170 : decode cL_law 2170 = .ok (.iadd, 1) := by decide +kernel
theorem dl_2171 : decode cL_law 2171 = .ok (.iaload, 1) := by decide +kernel
theorem dl_2172 : decode cL_law 2172 = .ok (.aload_n 0, 1) := by decide +kernel
theorem dl_2173 : decode cL_law 2173 = .ok (.iload 4, 2) := by decide +kernel
theorem dl_2175 : decode cL_law 2175 = .ok (.iconst 3, 1) := by decide +kernel
theorem dl_2176 : decode cL_law 2176 = .ok (.iadd, 1) := by decide +kernel
theorem dl_2177 : decode cL_law 2177 = .ok (.iaload, 1) := by decide +kernel
theorem dl_2178 : decode cL_law 2178 = .ok (.aload_n 0, 1) := by decide +kernel
theorem dl_2179 : decode cL_law 2179 = .ok (.iload 4, 2) := by decide +kernel
theorem dl_2181 : decode cL_law 2181 = .ok (.iconst 4, 1) := by decide +kernel
theorem dl_2182 : decode cL_law 2182 = .ok (.iadd, 1) := by decide +kernel
theorem dl_2183 : decode cL_law 2183 = .ok (.iaload, 1) := by decide +kernel
theorem dl_2184 : decode cL_law 2184 = .ok (.aload_n 0, 1) := by decide +kernel
theorem dl_2185 : decode cL_law 2185 = .ok (.iload 4, 2) := by decide +kernel
theorem dl_2187 : decode cL_law 2187 = .ok (.iconst 5, 1) := by decide +kernel
theorem dl_2188 : decode cL_law 2188 = .ok (.iadd, 1) := by decide +kernel
theorem dl_2189 : decode cL_law 2189 = .ok (.iaload, 1) := by decide +kernel
theorem dl_2190 : decode cL_law 2190 = .ok (.aload_n 0, 1) := by decide +kernel
theorem dl_2191 : decode cL_law 2191 = .ok (.iload 4, 2) := by decide +kernel
theorem dl_2193 : decode cL_law 2193 = .ok (.bipush 6, 2) := by decide +kernel
theorem dl_2195 : decode cL_law 2195 = .ok (.iadd, 1) := by decide +kernel
theorem dl_2196 : decode cL_law 2196 = .ok (.iaload, 1) := by decide +kernel
theorem dl_2197 : decode cL_law 2197 = .ok (.aload_n 0, 1) := by decide +kernel
theorem dl_2198 : decode cL_law 2198 = .ok (.iload 4, 2) := by decide +kernel
theorem dl_2200 : decode cL_law 2200 = .ok (.bipush 7, 2) := by decide +kernel
theorem dl_2202 : decode cL_law 2202 = .ok (.iadd, 1) := by decide +kernel
theorem dl_2203 : decode cL_law 2203 = .ok (.iaload, 1) := by decide +kernel
theorem dl_2204 : decode cL_law 2204 = .ok (.invokevirtual 266, 3) := by decide +kernel
theorem dl_2207 : decode cL_law 2207 = .ok (.istore 6, 2) := by decide +kernel
theorem dl_2209 : decode cL_law 2209 = .ok (.aload_n 2, 1) := by decide +kernel
theorem dl_2210 : decode cL_law 2210 = .ok (.invokevirtual 172, 3) := by decide +kernel
theorem dl_2213 : decode cL_law 2213 = .ok (.iload 5, 2) := by decide +kernel
theorem dl_2215 : decode cL_law 2215 = .ok (.if_icmp .eq 5, 3) := by decide +kernel
theorem dl_2218 : decode cL_law 2218 = .ok (.iconst 0, 1) := by decide +kernel
theorem dl_2219 : decode cL_law 2219 = .ok (.ireturn, 1) := by decide +kernel
theorem dl_2220 : decode cL_law 2220 = .ok (.iload 5, 2) := by decide +kernel
theorem dl_2222 : decode cL_law 2222 = .ok (.ifCond .ne 15, 3) := by decide +kernel
theorem dl_2225 : decode cL_law 2225 = .ok (.aload_n 3, 1) := by decide +kernel
theorem dl_2226 : decode cL_law 2226 = .ok (.iconst 0, 1) := by decide +kernel
theorem dl_2227 : decode cL_law 2227 = .ok (.laload, 1) := by decide +kernel
theorem dl_2228 : decode cL_law 2228 = .ok (.iload 6, 2) := by decide +kernel
theorem dl_2230 : decode cL_law 2230 = .ok (.i2l, 1) := by decide +kernel
theorem dl_2231 : decode cL_law 2231 = .ok (.lcmp, 1) := by decide +kernel
theorem dl_2232 : decode cL_law 2232 = .ok (.ifCond .eq 5, 3) := by decide +kernel
theorem dl_2235 : decode cL_law 2235 = .ok (.iconst 0, 1) := by decide +kernel
theorem dl_2236 : decode cL_law 2236 = .ok (.ireturn, 1) := by decide +kernel
theorem dl_2237 : decode cL_law 2237 = .ok (.goto 1011, 3) := by decide +kernel
set_option maxRecDepth 100000 in
set_option maxHeartbeats 4000000 in
theorem lk_trip {p : Program} {l : Launch} {e : Env} {s : State} {m : MethodId} {args : Array Value} {below : List Frame} {meth : Method} {c : Code} {k : KC} {A : Nat → Prop} {Q : State → Prop} {bc1 bs1 b0 Ln b ao mo i : Nat} {xs : Nat → Int32} {ad : Nat → Nat} {f : Nat → Int64} {X : CX} {S : CT} {M : MS} {rt9 : Option FieldType} (hl : l.stackTraces = false) (G : GX p l room_1 s m args meth c k A RL cL_law 8 rt9) (hX : va_X b0 Ln xs s s.heap) (hbl : b0 < s.heap.size) (hbA : ¬ A b0) (hH : HM mo ad) (hi : i + 8 ≤ Ln) (hL : Ln ≤ 4096) (h : LV9 k b X S ao f mo ad M) (hend : ∀ X2 S2 M2 f2, LV9 k b X2 S2 ao f2 mo ad M2 → Wx p l e room_1 s m args below meth c k A 8 Q bc1 bs1 3248 [some (.ref b0), some (.ref b), some (.ref mo), some (.ref ao), some (.int (nI i)), none, none, none] [] (WL k X2 S2 ao f2 mo ad M2)) : Wx p l e room_1 s m args below meth c k A 8 Q (bc1 + 2) (bs1 + 74) 2108 [some (.ref b0), some (.ref b), some (.ref mo), some (.ref ao), some (.int (nI i)), none, none, none] [] (WL k X S ao f mo ad M) := by
  obtain ⟨hI, hb, hd1, hd2⟩ := h
  obtain ⟨hbm, fs, hbf⟩ := cw11 (k := k) (S := S) hI.1 hb
  have hvr := vr11 hb
  have hx1 : vp_in (nI i + 1) Ln := ix_in (j := 1) rfl (by omega) hL
  have hx2 : vp_in (nI i + 2) Ln := ix_in (j := 2) rfl (by omega) hL
  have hx3 : vp_in (nI i + 3) Ln := ix_in (j := 3) rfl (by omega) hL
  have hx4 : vp_in (nI i + 4) Ln := ix_in (j := 4) rfl (by omega) hL
  have hx5 : vp_in (nI i + 5) Ln := ix_in (j := 5) rfl (by omega) hL
  have hx6 : vp_in (nI i + 6) Ln := ix_in (j := 6) rfl (by omega) hL
  have hx7 : vp_in (nI i + 7) Ln := ix_in (j := 7) rfl (by omega) hL
  unfold WL
  refine x_aload1 (pc := 2108) G dl_2108 ?_
  refine x_aload0 (pc := 2109) G dl_2109 ?_
  refine x_iload4 (pc := 2110) G dl_2110 ?_
  refine x_iconst (pc := 2112) (v := 1) G dl_2112 (by decide) ?_
  refine x_iadd (pc := 2113) G dl_2113 ?_
  refine x_sld (pc := 2114) G hX hbl hbA hx1 dl_2114 ?_
  refine x_aload0 (pc := 2115) G dl_2115 ?_
  refine x_iload4 (pc := 2116) G dl_2116 ?_
  refine x_iconst (pc := 2118) (v := 2) G dl_2118 (by decide) ?_
  refine x_iadd (pc := 2119) G dl_2119 ?_
  refine x_sld (pc := 2120) G hX hbl hbA hx2 dl_2120 ?_
  refine x_aload0 (pc := 2121) G dl_2121 ?_
  refine x_iload4 (pc := 2122) G dl_2122 ?_
  refine x_iconst (pc := 2124) (v := 3) G dl_2124 (by decide) ?_
  refine x_iadd (pc := 2125) G dl_2125 ?_
  refine x_sld (pc := 2126) G hX hbl hbA hx3 dl_2126 ?_
  refine x_aload0 (pc := 2127) G dl_2127 ?_
  refine x_iload4 (pc := 2128) G dl_2128 ?_
  refine x_iconst (pc := 2130) (v := 4) G dl_2130 (by decide) ?_
  refine x_iadd (pc := 2131) G dl_2131 ?_
  refine x_sld (pc := 2132) G hX hbl hbA hx4 dl_2132 ?_
  refine x_aload0 (pc := 2133) G dl_2133 ?_
  refine x_iload4 (pc := 2134) G dl_2134 ?_
  refine x_iconst (pc := 2136) (v := 5) G dl_2136 (by decide) ?_
  refine x_iadd (pc := 2137) G dl_2137 ?_
  refine x_sld (pc := 2138) G hX hbl hbA hx5 dl_2138 ?_
  refine x_aload0 (pc := 2139) G dl_2139 ?_
  refine x_iload4 (pc := 2140) G dl_2140 ?_
  refine x_bipush (pc := 2142) (v := 6) G dl_2142 (by decide) ?_
  refine x_iadd (pc := 2144) G dl_2144 ?_
  refine x_sld (pc := 2145) G hX hbl hbA hx6 dl_2145 ?_
  refine x_aload0 (pc := 2146) G dl_2146 ?_
  refine x_iload4 (pc := 2147) G dl_2147 ?_
  refine x_bipush (pc := 2149) (v := 7) G dl_2149 (by decide) ?_
  refine x_iadd (pc := 2151) G dl_2151 ?_
  refine x_sld (pc := 2152) G hX hbl hbA hx7 dl_2152 ?_
  refine x_aload3 (pc := 2153) G dl_2153 ?_
  have hC := kc_trip (k := k) hl hI (p1 := (xs (nI i + 1).toNatClampNeg)) (p2 := (xs (nI i + 2).toNatClampNeg)) (p3 := (xs (nI i + 3).toNatClampNeg)) (p4 := (xs (nI i + 4).toNatClampNeg)) (p5 := (xs (nI i + 5).toNatClampNeg)) (p6 := (xs (nI i + 6).toNatClampNeg)) (p7 := (xs (nI i + 7).toNatClampNeg))
  rw [hvr] at hC
  have hst := fun {o : Out} {w : Wd} => so_trip (k := k) (o := o) (w := w) (p1 := (xs (nI i + 1).toNatClampNeg)) (p2 := (xs (nI i + 2).toNatClampNeg)) (p3 := (xs (nI i + 3).toNatClampNeg)) (p4 := (xs (nI i + 4).toNatClampNeg)) (p5 := (xs (nI i + 5).toNatClampNeg)) (p6 := (xs (nI i + 6).toNatClampNeg)) (p7 := (xs (nI i + 7).toNatClampNeg)) hI
  have hh := ch_trip hl hbm hbf hd1 hC (fun o w hp => by
    obtain ⟨_, _, _, _, _, ⟨ho, _⟩ | ⟨E, he, _, hc⟩⟩ := hst hp
    · exact Or.inl ⟨_, ho⟩
    · exact Or.inr ⟨E, he, hc⟩)
  have hh := MI.frame hh hd2
  refine x_callSW (pc := 2154) (bc1 := bc1) (bs1 := bs1) (n := 9) (As := [.ref b, .int (xs (nI i + 1).toNatClampNeg), .int (xs (nI i + 2).toNatClampNeg), .int (xs (nI i + 3).toNatClampNeg), .int (xs (nI i + 4).toNatClampNeg), .int (xs (nI i + 5).toNatClampNeg), .int (xs (nI i + 6).toNatClampNeg), .int (xs (nI i + 7).toNatClampNeg), .ref ao]) G hh q_ml_L_263 q_st_yL_trip q_in_L q_cw_trip ⟨by decide, by decide, by decide +kernel⟩ ⟨Nat.le_of_ble_eq_true rfl, Nat.le_of_ble_eq_true rfl⟩ (Nat.zero_le _) (Nat.le_refl _) (Nat.le_refl _) rfl rfl dl_2154 (fun v w9 hp => ?_)
  obtain ⟨X2, S2, f2, kc, rfl, hL2, hv, hk, hz⟩ : ∃ X2 S2 f2 kc, w9 = wu (wu (cW k X2 S2) (oW k ao f2)) (mW k mo ad M) ∧ LV9 k b X2 S2 ao f2 mo ad (f_trip (xs (nI i + 1).toNatClampNeg) (xs (nI i + 2).toNatClampNeg) (xs (nI i + 3).toNatClampNeg) (xs (nI i + 4).toNatClampNeg) (xs (nI i + 5).toNatClampNeg) (xs (nI i + 6).toNatClampNeg) (xs (nI i + 7).toNatClampNeg) M).2 ∧ v = some (.int kc) ∧ mI (f_trip (xs (nI i + 1).toNatClampNeg) (xs (nI i + 2).toNatClampNeg) (xs (nI i + 3).toNatClampNeg) (xs (nI i + 4).toNatClampNeg) (xs (nI i + 5).toNatClampNeg) (xs (nI i + 6).toNatClampNeg) (xs (nI i + 7).toNatClampNeg) M).2 0 = kc ∧ (kc = 0 → f2 0 = (f_trip (xs (nI i + 1).toNatClampNeg) (xs (nI i + 2).toNatClampNeg) (xs (nI i + 3).toNatClampNeg) (xs (nI i + 4).toNatClampNeg) (xs (nI i + 5).toNatClampNeg) (xs (nI i + 6).toNatClampNeg) (xs (nI i + 7).toNatClampNeg) M).1.toInt64) := by
    obtain ⟨h9, ⟨w1, f1, rfl, hd1', hpp⟩, hd2', rfl⟩ := hp
    rcases hpp with ⟨r, hp1, hv, hf⟩ | ⟨E, hp1, hv⟩
    · obtain ⟨X2, S2, rfl, hI2, hb2, ⟨ho, h0⟩ | ⟨E, he, _, _⟩⟩ := hst hp1
      · have e9 := Sum.inl.inj ho
        cases e9
        exact ⟨X2, S2, _, 0, rfl, ⟨hI2, hb2.trans hb, hd1', hd2'⟩, Sum.inl.inj hv, h0, fun _ => hf⟩
      · cases he
    · obtain ⟨X2, S2, rfl, hI2, hb2, ⟨ho, h0⟩ | ⟨E2, he, h0, hc⟩⟩ := hst hp1
      · cases ho
      · cases he
        refine ⟨X2, S2, _, _, rfl, ⟨hI2, hb2.trans hb, hd1', hd2'⟩, Sum.inl.inj hv, h0, fun z => ?_⟩
        rcases hc with rfl | rfl | rfl <;> exact absurd z (by decide)
  subst hv
  obtain ⟨hI2, hb2, hd1', hd2'⟩ := id hL2
  refine x_istore5 (pc := 2157) G dl_2157 (by decide) rfl ?_
  refine x_aload2 (pc := 2159) G dl_2159 ?_
  refine x_aload0 (pc := 2160) G dl_2160 ?_
  refine x_iload4 (pc := 2161) G dl_2161 ?_
  refine x_iconst (pc := 2163) (v := 1) G dl_2163 (by decide) ?_
  refine x_iadd (pc := 2164) G dl_2164 ?_
  refine x_sld (pc := 2165) G hX hbl hbA hx1 dl_2165 ?_
  refine x_aload0 (pc := 2166) G dl_2166 ?_
  refine x_iload4 (pc := 2167) G dl_2167 ?_
  refine x_iconst (pc := 2169) (v := 2) G dl_2169 (by decide) ?_
  refine x_iadd (pc := 2170) G dl_2170 ?_
  refine x_sld (pc := 2171) G hX hbl hbA hx2 dl_2171 ?_
  refine x_aload0 (pc := 2172) G dl_2172 ?_
  refine x_iload4 (pc := 2173) G dl_2173 ?_
  refine x_iconst (pc := 2175) (v := 3) G dl_2175 (by decide) ?_
  refine x_iadd (pc := 2176) G dl_2176 ?_
  refine x_sld (pc := 2177) G hX hbl hbA hx3 dl_2177 ?_
  refine x_aload0 (pc := 2178) G dl_2178 ?_
  refine x_iload4 (pc := 2179) G dl_2179 ?_
  refine x_iconst (pc := 2181) (v := 4) G dl_2181 (by decide) ?_
  refine x_iadd (pc := 2182) G dl_2182 ?_
  refine x_sld (pc := 2183) G hX hbl hbA hx4 dl_2183 ?_
  refine x_aload0 (pc := 2184) G dl_2184 ?_
  refine x_iload4 (pc := 2185) G dl_2185 ?_
  refine x_iconst (pc := 2187) (v := 5) G dl_2187 (by decide) ?_
  refine x_iadd (pc := 2188) G dl_2188 ?_
  refine x_sld (pc := 2189) G hX hbl hbA hx5 dl_2189 ?_
  refine x_aload0 (pc := 2190) G dl_2190 ?_
  refine x_iload4 (pc := 2191) G dl_2191 ?_
  refine x_bipush (pc := 2193) (v := 6) G dl_2193 (by decide) ?_
  refine x_iadd (pc := 2195) G dl_2195 ?_
  refine x_sld (pc := 2196) G hX hbl hbA hx6 dl_2196 ?_
  refine x_aload0 (pc := 2197) G dl_2197 ?_
  refine x_iload4 (pc := 2198) G dl_2198 ?_
  refine x_bipush (pc := 2200) (v := 7) G dl_2200 (by decide) ?_
  refine x_iadd (pc := 2202) G dl_2202 ?_
  refine x_sld (pc := 2203) G hX hbl hbA hx7 dl_2203 ?_
  have hr := rc_trip (k := k) hl hH hI.2.2.2 (p1 := (xs (nI i + 1).toNatClampNeg)) (p2 := (xs (nI i + 2).toNatClampNeg)) (p3 := (xs (nI i + 3).toNatClampNeg)) (p4 := (xs (nI i + 4).toNatClampNeg)) (p5 := (xs (nI i + 5).toNatClampNeg)) (p6 := (xs (nI i + 6).toNatClampNeg)) (p7 := (xs (nI i + 7).toNatClampNeg))
  refine Wx_perm hd2' ?_
  refine x_callV (pc := 2204) (bc1 := bc1) (bs1 := bs1) (n := 7) (As := [.int (xs (nI i + 1).toNatClampNeg), .int (xs (nI i + 2).toNatClampNeg), .int (xs (nI i + 3).toNatClampNeg), .int (xs (nI i + 4).toNatClampNeg), .int (xs (nI i + 5).toNatClampNeg), .int (xs (nI i + 6).toNatClampNeg), .int (xs (nI i + 7).toNatClampNeg)]) G (hr.frame (fun a ha z => hd2' a z ha)) (List.mem_append_left _ mW_mo.1) ((if_pos mW_mo.1).trans mW_mo.2) (show vwCl[12]? = some (_, _, _) from rfl) q_ml_L_266 q_im_yX11_trip q_se_yX11_trip q_in_X11 q_co_yX11_trip ⟨by decide, by decide, by decide +kernel⟩ ⟨Nat.le_of_ble_eq_true rfl, Nat.le_of_ble_eq_true rfl⟩ (Nat.zero_le _) (Nat.le_refl _) (Nat.le_refl _) rfl rfl dl_2204 (fun v w9 hp => ?_) (fun E w9 hp => by obtain ⟨_, hq, _⟩ := hp; cases hq.1)
  obtain ⟨h9, ⟨hv, rfl⟩, _, rfl⟩ := hp
  have hv := Sum.inl.inj hv
  subst hv
  refine Wx_perm (fun a ha z => hd2' a z ha) ?_
  refine x_istore6 (pc := 2207) G dl_2207 (by decide) rfl ?_
  refine x_aload2 (pc := 2209) G dl_2209 ?_
  refine Wx_perm hd2' ?_
  refine x_callV (pc := 2210) (bc1 := bc1) (bs1 := bs1) (n := 0) (As := []) G ((c_thrown (k := k) (M := (f_trip (xs (nI i + 1).toNatClampNeg) (xs (nI i + 2).toNatClampNeg) (xs (nI i + 3).toNatClampNeg) (xs (nI i + 4).toNatClampNeg) (xs (nI i + 5).toNatClampNeg) (xs (nI i + 6).toNatClampNeg) (xs (nI i + 7).toNatClampNeg) M).2) hl hH).frame (fun a ha z => hd2' a z ha)) (List.mem_append_left _ mW_mo.1) ((if_pos mW_mo.1).trans mW_mo.2) (show vwCl[12]? = some (_, _, _) from rfl) q_ml_L_172 q_im_yX11_thrown q_se_yX11_thrown q_in_X11 q_co_yX11_thrown ⟨by decide, by decide, by decide +kernel⟩ ⟨Nat.le_of_ble_eq_true rfl, Nat.le_of_ble_eq_true rfl⟩ (Nat.zero_le _) (Nat.le_refl _) (Nat.le_refl _) rfl rfl dl_2210 (fun v w9 hp => ?_) (fun E w9 hp => by obtain ⟨_, hq, _⟩ := hp; cases hq.1)
  obtain ⟨h9, ⟨hv, rfl⟩, _, rfl⟩ := hp
  have hv := Sum.inl.inj hv
  subst hv
  refine Wx_perm (fun a ha z => hd2' a z ha) ?_
  refine x_iload5 (pc := 2213) G dl_2213 ?_
  refine x_icmp_eq (pc := 2215) (tgt := 2220) G dl_2215 rfl (fun _ => ?_) (fun z9 => absurd hk z9)
  refine x_iload5 (pc := 2220) G dl_2220 ?_
  refine x_if_ne (pc := 2222) (tgt := 2237) (y := 0) G dl_2222 rfl (fun _ => ?_) (fun z9 => ?_)
  · skip
    refine x_goto (pc := 2237) (tgt := 3248) G dl_2237 rfl ?_
    exact Wx_l8 (hend X2 S2 _ f2 hL2)
  · have hf := hz z9
    refine x_aload3 (pc := 2225) G dl_2225 ?_
    refine x_iconst (pc := 2226) (v := 0) G dl_2226 (by decide) ?_
    refine x_old (pc := 2227) G hd1' dl_2227 ?_
    refine x_iload6 (pc := 2228) G dl_2228 ?_
    refine x_i2l (pc := 2230) G dl_2230 ?_
    refine x_lcmp (pc := 2231) G dl_2231 ?_
    refine x_if_eq (pc := 2232) (tgt := 2237) (y := 0) G dl_2232 rfl (fun _ => ?_) (fun z8 => absurd (lg_same hf) z8)
    refine x_goto (pc := 2237) (tgt := 3248) G dl_2237 rfl ?_
    exact Wx_l8 (hend X2 S2 _ f2 hL2)
theorem dl_2240 : decode cL_law 2240 = .ok (.aload_n 1, 1) := by decide +kernel
theorem dl_2241 : decode cL_law 2241 = .ok (.aload_n 0, 1) := by decide +kernel
theorem dl_2242 : decode cL_law 2242 = .ok (.iload 4, 2) := by decide +kernel
theorem dl_2244 : decode cL_law 2244 = .ok (.iconst 1, 1) := by decide +kernel
theorem dl_2245 : decode cL_law 2245 = .ok (.iadd, 1) := by decide +kernel
theorem dl_2246 : decode cL_law 2246 = .ok (.iaload, 1) := by decide +kernel
theorem dl_2247 : decode cL_law 2247 = .ok (.aload_n 0, 1) := by decide +kernel
theorem dl_2248 : decode cL_law 2248 = .ok (.iload 4, 2) := by decide +kernel
theorem dl_2250 : decode cL_law 2250 = .ok (.iconst 2, 1) := by decide +kernel
theorem dl_2251 : decode cL_law 2251 = .ok (.iadd, 1) := by decide +kernel
theorem dl_2252 : decode cL_law 2252 = .ok (.iaload, 1) := by decide +kernel
theorem dl_2253 : decode cL_law 2253 = .ok (.aload_n 3, 1) := by decide +kernel
theorem dl_2254 : decode cL_law 2254 = .ok (.invokestatic 267, 3) := by decide +kernel
theorem dl_2257 : decode cL_law 2257 = .ok (.istore 5, 2) := by decide +kernel
theorem dl_2259 : decode cL_law 2259 = .ok (.aload_n 2, 1) := by decide +kernel
theorem dl_2260 : decode cL_law 2260 = .ok (.aload_n 0, 1) := by decide +kernel
theorem dl_2261 : decode cL_law 2261 = .ok (.iload 4, 2) := by decide +kernel
theorem dl_2263 : decode cL_law 2263 = .ok (.iconst 1, 1) := by decide +kernel
theorem dl_2264 : decode cL_law 2264 = .ok (.iadd, 1) := by decide +kernel
theorem dl_2265 : decode cL_law 2265 = .ok (.iaload, 1) := by decide +kernel
theorem dl_2266 : decode cL_law 2266 = .ok (.aload_n 0, 1) := by decide +kernel
theorem dl_2267 : decode cL_law 2267 = .ok (.iload 4, 2) := by decide +kernel
theorem dl_2269 : decode cL_law 2269 = .ok (.iconst 2, 1) := by decide +kernel
theorem dl_2270 : decode cL_law 2270 = .ok (.iadd, 1) := by decide +kernel
theorem dl_2271 : decode cL_law 2271 = .ok (.iaload, 1) := by decide +kernel
theorem dl_2272 : decode cL_law 2272 = .ok (.invokevirtual 269, 3) := by decide +kernel
theorem dl_2275 : decode cL_law 2275 = .ok (.lstore 6, 2) := by decide +kernel
theorem dl_2277 : decode cL_law 2277 = .ok (.aload_n 2, 1) := by decide +kernel
theorem dl_2278 : decode cL_law 2278 = .ok (.invokevirtual 172, 3) := by decide +kernel
theorem dl_2281 : decode cL_law 2281 = .ok (.iload 5, 2) := by decide +kernel
theorem dl_2283 : decode cL_law 2283 = .ok (.if_icmp .eq 5, 3) := by decide +kernel
theorem dl_2286 : decode cL_law 2286 = .ok (.iconst 0, 1) := by decide +kernel
theorem dl_2287 : decode cL_law 2287 = .ok (.ireturn, 1) := by decide +kernel
theorem dl_2288 : decode cL_law 2288 = .ok (.iload 5, 2) := by decide +kernel
theorem dl_2290 : decode cL_law 2290 = .ok (.ifCond .ne 14, 3) := by decide +kernel
theorem dl_2293 : decode cL_law 2293 = .ok (.aload_n 3, 1) := by decide +kernel
theorem dl_2294 : decode cL_law 2294 = .ok (.iconst 0, 1) := by decide +kernel
theorem dl_2295 : decode cL_law 2295 = .ok (.laload, 1) := by decide +kernel
theorem dl_2296 : decode cL_law 2296 = .ok (.lload 6, 2) := by decide +kernel
theorem dl_2298 : decode cL_law 2298 = .ok (.lcmp, 1) := by decide +kernel
theorem dl_2299 : decode cL_law 2299 = .ok (.ifCond .eq 5, 3) := by decide +kernel
theorem dl_2302 : decode cL_law 2302 = .ok (.iconst 0, 1) := by decide +kernel
theorem dl_2303 : decode cL_law 2303 = .ok (.ireturn, 1) := by decide +kernel
theorem dl_2304 : decode cL_law 2304 = .ok (.goto 944, 3) := by decide +kernel
set_option maxRecDepth 100000 in
set_option maxHeartbeats 4000000 in
theorem lk_advance {p : Program} {l : Launch} {e : Env} {s : State} {m : MethodId} {args : Array Value} {below : List Frame} {meth : Method} {c : Code} {k : KC} {A : Nat → Prop} {Q : State → Prop} {bc1 bs1 b0 Ln b ao mo i : Nat} {xs : Nat → Int32} {ad : Nat → Nat} {f : Nat → Int64} {X : CX} {S : CT} {M : MS} {rt9 : Option FieldType} (hl : l.stackTraces = false) (G : GX p l room_1 s m args meth c k A RL cL_law 8 rt9) (hX : va_X b0 Ln xs s s.heap) (hbl : b0 < s.heap.size) (hbA : ¬ A b0) (hH : HM mo ad) (hi : i + 8 ≤ Ln) (hL : Ln ≤ 4096) (h : LV9 k b X S ao f mo ad M) (hend : ∀ X2 S2 M2 f2, LV9 k b X2 S2 ao f2 mo ad M2 → Wx p l e room_1 s m args below meth c k A 8 Q bc1 bs1 3248 [some (.ref b0), some (.ref b), some (.ref mo), some (.ref ao), some (.int (nI i)), none, none, none] [] (WL k X2 S2 ao f2 mo ad M2)) : Wx p l e room_1 s m args below meth c k A 8 Q (bc1 + 1) (bs1 + 6) 2240 [some (.ref b0), some (.ref b), some (.ref mo), some (.ref ao), some (.int (nI i)), none, none, none] [] (WL k X S ao f mo ad M) := by
  obtain ⟨hI, hb, hd1, hd2⟩ := h
  obtain ⟨hbm, fs, hbf⟩ := cw11 (k := k) (S := S) hI.1 hb
  have hvr := vr11 hb
  have hx1 : vp_in (nI i + 1) Ln := ix_in (j := 1) rfl (by omega) hL
  have hx2 : vp_in (nI i + 2) Ln := ix_in (j := 2) rfl (by omega) hL
  unfold WL
  refine x_aload1 (pc := 2240) G dl_2240 ?_
  refine x_aload0 (pc := 2241) G dl_2241 ?_
  refine x_iload4 (pc := 2242) G dl_2242 ?_
  refine x_iconst (pc := 2244) (v := 1) G dl_2244 (by decide) ?_
  refine x_iadd (pc := 2245) G dl_2245 ?_
  refine x_sld (pc := 2246) G hX hbl hbA hx1 dl_2246 ?_
  refine x_aload0 (pc := 2247) G dl_2247 ?_
  refine x_iload4 (pc := 2248) G dl_2248 ?_
  refine x_iconst (pc := 2250) (v := 2) G dl_2250 (by decide) ?_
  refine x_iadd (pc := 2251) G dl_2251 ?_
  refine x_sld (pc := 2252) G hX hbl hbA hx2 dl_2252 ?_
  refine x_aload3 (pc := 2253) G dl_2253 ?_
  have hC := kc_advance (k := k) hl hI (p1 := (xs (nI i + 1).toNatClampNeg)) (p2 := (xs (nI i + 2).toNatClampNeg))
  rw [hvr] at hC
  have hst := fun {o : Out} {w : Wd} => so_advance (k := k) (o := o) (w := w) (p1 := (xs (nI i + 1).toNatClampNeg)) (p2 := (xs (nI i + 2).toNatClampNeg)) hI
  have hh := ch_advance hl hbm hbf hd1 hC (fun o w hp => by
    obtain ⟨_, _, _, _, _, ⟨ho, _⟩ | ⟨E, he, _, hc⟩⟩ := hst hp
    · exact Or.inl ⟨_, ho⟩
    · exact Or.inr ⟨E, he, hc⟩)
  have hh := MI.frame hh hd2
  refine x_callSW (pc := 2254) (bc1 := bc1) (bs1 := bs1) (n := 4) (As := [.ref b, .int (xs (nI i + 1).toNatClampNeg), .int (xs (nI i + 2).toNatClampNeg), .ref ao]) G hh q_ml_L_267 q_st_yL_advance q_in_L q_cw_advance ⟨by decide, by decide, by decide +kernel⟩ ⟨Nat.le_of_ble_eq_true rfl, Nat.le_of_ble_eq_true rfl⟩ (Nat.zero_le _) (Nat.le_refl _) (Nat.le_refl _) rfl rfl dl_2254 (fun v w9 hp => ?_)
  obtain ⟨X2, S2, f2, kc, rfl, hL2, hv, hk, hz⟩ : ∃ X2 S2 f2 kc, w9 = wu (wu (cW k X2 S2) (oW k ao f2)) (mW k mo ad M) ∧ LV9 k b X2 S2 ao f2 mo ad (f_advance (xs (nI i + 1).toNatClampNeg) (xs (nI i + 2).toNatClampNeg) M).2 ∧ v = some (.int kc) ∧ mI (f_advance (xs (nI i + 1).toNatClampNeg) (xs (nI i + 2).toNatClampNeg) M).2 0 = kc ∧ (kc = 0 → f2 0 = (f_advance (xs (nI i + 1).toNatClampNeg) (xs (nI i + 2).toNatClampNeg) M).1) := by
    obtain ⟨h9, ⟨w1, f1, rfl, hd1', hpp⟩, hd2', rfl⟩ := hp
    rcases hpp with ⟨r, hp1, hv, hf⟩ | ⟨E, hp1, hv⟩
    · obtain ⟨X2, S2, rfl, hI2, hb2, ⟨ho, h0⟩ | ⟨E, he, _, _⟩⟩ := hst hp1
      · have e9 := Sum.inl.inj ho
        cases e9
        exact ⟨X2, S2, _, 0, rfl, ⟨hI2, hb2.trans hb, hd1', hd2'⟩, Sum.inl.inj hv, h0, fun _ => hf⟩
      · cases he
    · obtain ⟨X2, S2, rfl, hI2, hb2, ⟨ho, h0⟩ | ⟨E2, he, h0, hc⟩⟩ := hst hp1
      · cases ho
      · cases he
        refine ⟨X2, S2, _, _, rfl, ⟨hI2, hb2.trans hb, hd1', hd2'⟩, Sum.inl.inj hv, h0, fun z => ?_⟩
        rcases hc with rfl | rfl <;> exact absurd z (by decide)
  subst hv
  obtain ⟨hI2, hb2, hd1', hd2'⟩ := id hL2
  refine x_istore5 (pc := 2257) G dl_2257 (by decide) rfl ?_
  refine x_aload2 (pc := 2259) G dl_2259 ?_
  refine x_aload0 (pc := 2260) G dl_2260 ?_
  refine x_iload4 (pc := 2261) G dl_2261 ?_
  refine x_iconst (pc := 2263) (v := 1) G dl_2263 (by decide) ?_
  refine x_iadd (pc := 2264) G dl_2264 ?_
  refine x_sld (pc := 2265) G hX hbl hbA hx1 dl_2265 ?_
  refine x_aload0 (pc := 2266) G dl_2266 ?_
  refine x_iload4 (pc := 2267) G dl_2267 ?_
  refine x_iconst (pc := 2269) (v := 2) G dl_2269 (by decide) ?_
  refine x_iadd (pc := 2270) G dl_2270 ?_
  refine x_sld (pc := 2271) G hX hbl hbA hx2 dl_2271 ?_
  have hr := rc_advance (k := k) hl hH hI.2.2.2 (p1 := (xs (nI i + 1).toNatClampNeg)) (p2 := (xs (nI i + 2).toNatClampNeg))
  refine Wx_perm hd2' ?_
  refine x_callV (pc := 2272) (bc1 := bc1) (bs1 := bs1) (n := 2) (As := [.int (xs (nI i + 1).toNatClampNeg), .int (xs (nI i + 2).toNatClampNeg)]) G (hr.frame (fun a ha z => hd2' a z ha)) (List.mem_append_left _ mW_mo.1) ((if_pos mW_mo.1).trans mW_mo.2) (show vwCl[12]? = some (_, _, _) from rfl) q_ml_L_269 q_im_yX11_advance q_se_yX11_advance q_in_X11 q_co_yX11_advance ⟨by decide, by decide, by decide +kernel⟩ ⟨Nat.le_of_ble_eq_true rfl, Nat.le_of_ble_eq_true rfl⟩ (Nat.zero_le _) (Nat.le_refl _) (Nat.le_refl _) rfl rfl dl_2272 (fun v w9 hp => ?_) (fun E w9 hp => by obtain ⟨_, hq, _⟩ := hp; cases hq.1)
  obtain ⟨h9, ⟨hv, rfl⟩, _, rfl⟩ := hp
  have hv := Sum.inl.inj hv
  subst hv
  refine Wx_perm (fun a ha z => hd2' a z ha) ?_
  refine x_lstore6 (pc := 2275) G dl_2275 (by decide) rfl ?_
  refine x_aload2 (pc := 2277) G dl_2277 ?_
  refine Wx_perm hd2' ?_
  refine x_callV (pc := 2278) (bc1 := bc1) (bs1 := bs1) (n := 0) (As := []) G ((c_thrown (k := k) (M := (f_advance (xs (nI i + 1).toNatClampNeg) (xs (nI i + 2).toNatClampNeg) M).2) hl hH).frame (fun a ha z => hd2' a z ha)) (List.mem_append_left _ mW_mo.1) ((if_pos mW_mo.1).trans mW_mo.2) (show vwCl[12]? = some (_, _, _) from rfl) q_ml_L_172 q_im_yX11_thrown q_se_yX11_thrown q_in_X11 q_co_yX11_thrown ⟨by decide, by decide, by decide +kernel⟩ ⟨Nat.le_of_ble_eq_true rfl, Nat.le_of_ble_eq_true rfl⟩ (Nat.zero_le _) (Nat.le_refl _) (Nat.le_refl _) rfl rfl dl_2278 (fun v w9 hp => ?_) (fun E w9 hp => by obtain ⟨_, hq, _⟩ := hp; cases hq.1)
  obtain ⟨h9, ⟨hv, rfl⟩, _, rfl⟩ := hp
  have hv := Sum.inl.inj hv
  subst hv
  refine Wx_perm (fun a ha z => hd2' a z ha) ?_
  refine x_iload5 (pc := 2281) G dl_2281 ?_
  refine x_icmp_eq (pc := 2283) (tgt := 2288) G dl_2283 rfl (fun _ => ?_) (fun z9 => absurd hk z9)
  refine x_iload5 (pc := 2288) G dl_2288 ?_
  refine x_if_ne (pc := 2290) (tgt := 2304) (y := 0) G dl_2290 rfl (fun _ => ?_) (fun z9 => ?_)
  · skip
    refine x_goto (pc := 2304) (tgt := 3248) G dl_2304 rfl ?_
    exact Wx_l8 (hend X2 S2 _ f2 hL2)
  · have hf := hz z9
    refine x_aload3 (pc := 2293) G dl_2293 ?_
    refine x_iconst (pc := 2294) (v := 0) G dl_2294 (by decide) ?_
    refine x_old (pc := 2295) G hd1' dl_2295 ?_
    refine x_lload6 (pc := 2296) G dl_2296 ?_
    refine x_lcmp (pc := 2298) G dl_2298 ?_
    refine x_if_eq (pc := 2299) (tgt := 2304) (y := 0) G dl_2299 rfl (fun _ => ?_) (fun z8 => absurd (lg_same hf) z8)
    refine x_goto (pc := 2304) (tgt := 3248) G dl_2304 rfl ?_
    exact Wx_l8 (hend X2 S2 _ f2 hL2)
theorem dl_2307 : decode cL_law 2307 = .ok (.aload_n 1, 1) := by decide +kernel
theorem dl_2308 : decode cL_law 2308 = .ok (.aload_n 0, 1) := by decide +kernel
theorem dl_2309 : decode cL_law 2309 = .ok (.iload 4, 2) := by decide +kernel
theorem dl_2311 : decode cL_law 2311 = .ok (.iconst 1, 1) := by decide +kernel
theorem dl_2312 : decode cL_law 2312 = .ok (.iadd, 1) := by decide +kernel
theorem dl_2313 : decode cL_law 2313 = .ok (.iaload, 1) := by decide +kernel
theorem dl_2314 : decode cL_law 2314 = .ok (.aload_n 3, 1) := by decide +kernel
theorem dl_2315 : decode cL_law 2315 = .ok (.invokestatic 270, 3) := by decide +kernel
theorem dl_2318 : decode cL_law 2318 = .ok (.istore 5, 2) := by decide +kernel
theorem dl_2320 : decode cL_law 2320 = .ok (.aload_n 2, 1) := by decide +kernel
theorem dl_2321 : decode cL_law 2321 = .ok (.aload_n 0, 1) := by decide +kernel
theorem dl_2322 : decode cL_law 2322 = .ok (.iload 4, 2) := by decide +kernel
theorem dl_2324 : decode cL_law 2324 = .ok (.iconst 1, 1) := by decide +kernel
theorem dl_2325 : decode cL_law 2325 = .ok (.iadd, 1) := by decide +kernel
theorem dl_2326 : decode cL_law 2326 = .ok (.iaload, 1) := by decide +kernel
theorem dl_2327 : decode cL_law 2327 = .ok (.invokevirtual 272, 3) := by decide +kernel
theorem dl_2330 : decode cL_law 2330 = .ok (.lstore 6, 2) := by decide +kernel
theorem dl_2332 : decode cL_law 2332 = .ok (.aload_n 2, 1) := by decide +kernel
theorem dl_2333 : decode cL_law 2333 = .ok (.invokevirtual 172, 3) := by decide +kernel
theorem dl_2336 : decode cL_law 2336 = .ok (.iload 5, 2) := by decide +kernel
theorem dl_2338 : decode cL_law 2338 = .ok (.if_icmp .eq 5, 3) := by decide +kernel
theorem dl_2341 : decode cL_law 2341 = .ok (.iconst 0, 1) := by decide +kernel
theorem dl_2342 : decode cL_law 2342 = .ok (.ireturn, 1) := by decide +kernel
theorem dl_2343 : decode cL_law 2343 = .ok (.iload 5, 2) := by decide +kernel
theorem dl_2345 : decode cL_law 2345 = .ok (.ifCond .ne 14, 3) := by decide +kernel
theorem dl_2348 : decode cL_law 2348 = .ok (.aload_n 3, 1) := by decide +kernel
theorem dl_2349 : decode cL_law 2349 = .ok (.iconst 0, 1) := by decide +kernel
theorem dl_2350 : decode cL_law 2350 = .ok (.laload, 1) := by decide +kernel
theorem dl_2351 : decode cL_law 2351 = .ok (.lload 6, 2) := by decide +kernel
theorem dl_2353 : decode cL_law 2353 = .ok (.lcmp, 1) := by decide +kernel
theorem dl_2354 : decode cL_law 2354 = .ok (.ifCond .eq 5, 3) := by decide +kernel
theorem dl_2357 : decode cL_law 2357 = .ok (.iconst 0, 1) := by decide +kernel
theorem dl_2358 : decode cL_law 2358 = .ok (.ireturn, 1) := by decide +kernel
theorem dl_2359 : decode cL_law 2359 = .ok (.goto 889, 3) := by decide +kernel
set_option maxRecDepth 100000 in
set_option maxHeartbeats 4000000 in
theorem lk_settle {p : Program} {l : Launch} {e : Env} {s : State} {m : MethodId} {args : Array Value} {below : List Frame} {meth : Method} {c : Code} {k : KC} {A : Nat → Prop} {Q : State → Prop} {bc1 bs1 b0 Ln b ao mo i : Nat} {xs : Nat → Int32} {ad : Nat → Nat} {f : Nat → Int64} {X : CX} {S : CT} {M : MS} {rt9 : Option FieldType} (hl : l.stackTraces = false) (G : GX p l room_1 s m args meth c k A RL cL_law 8 rt9) (hX : va_X b0 Ln xs s s.heap) (hbl : b0 < s.heap.size) (hbA : ¬ A b0) (hH : HM mo ad) (hi : i + 8 ≤ Ln) (hL : Ln ≤ 4096) (h : LV9 k b X S ao f mo ad M) (hend : ∀ X2 S2 M2 f2, LV9 k b X2 S2 ao f2 mo ad M2 → Wx p l e room_1 s m args below meth c k A 8 Q bc1 bs1 3248 [some (.ref b0), some (.ref b), some (.ref mo), some (.ref ao), some (.int (nI i)), none, none, none] [] (WL k X2 S2 ao f2 mo ad M2)) : Wx p l e room_1 s m args below meth c k A 8 Q (bc1 + 1) (bs1 + 6) 2307 [some (.ref b0), some (.ref b), some (.ref mo), some (.ref ao), some (.int (nI i)), none, none, none] [] (WL k X S ao f mo ad M) := by
  obtain ⟨hI, hb, hd1, hd2⟩ := h
  obtain ⟨hbm, fs, hbf⟩ := cw11 (k := k) (S := S) hI.1 hb
  have hvr := vr11 hb
  have hx1 : vp_in (nI i + 1) Ln := ix_in (j := 1) rfl (by omega) hL
  unfold WL
  refine x_aload1 (pc := 2307) G dl_2307 ?_
  refine x_aload0 (pc := 2308) G dl_2308 ?_
  refine x_iload4 (pc := 2309) G dl_2309 ?_
  refine x_iconst (pc := 2311) (v := 1) G dl_2311 (by decide) ?_
  refine x_iadd (pc := 2312) G dl_2312 ?_
  refine x_sld (pc := 2313) G hX hbl hbA hx1 dl_2313 ?_
  refine x_aload3 (pc := 2314) G dl_2314 ?_
  have hC := kc_settle (k := k) hl hI (p1 := (xs (nI i + 1).toNatClampNeg))
  rw [hvr] at hC
  have hst := fun {o : Out} {w : Wd} => so_settle (k := k) (o := o) (w := w) (p1 := (xs (nI i + 1).toNatClampNeg)) hI
  have hh := ch_settle hl hbm hbf hd1 hC (fun o w hp => by
    obtain ⟨_, _, _, _, _, ⟨ho, _⟩ | ⟨E, he, _, hc⟩⟩ := hst hp
    · exact Or.inl ⟨_, ho⟩
    · exact Or.inr ⟨E, he, hc⟩)
  have hh := MI.frame hh hd2
  refine x_callSW (pc := 2315) (bc1 := bc1) (bs1 := bs1) (n := 3) (As := [.ref b, .int (xs (nI i + 1).toNatClampNeg), .ref ao]) G hh q_ml_L_270 q_st_yL_settle q_in_L q_cw_settle ⟨by decide, by decide, by decide +kernel⟩ ⟨Nat.le_of_ble_eq_true rfl, Nat.le_of_ble_eq_true rfl⟩ (Nat.zero_le _) (Nat.le_refl _) (Nat.le_refl _) rfl rfl dl_2315 (fun v w9 hp => ?_)
  obtain ⟨X2, S2, f2, kc, rfl, hL2, hv, hk, hz⟩ : ∃ X2 S2 f2 kc, w9 = wu (wu (cW k X2 S2) (oW k ao f2)) (mW k mo ad M) ∧ LV9 k b X2 S2 ao f2 mo ad (f_settle (xs (nI i + 1).toNatClampNeg) M).2 ∧ v = some (.int kc) ∧ mI (f_settle (xs (nI i + 1).toNatClampNeg) M).2 0 = kc ∧ (kc = 0 → f2 0 = (f_settle (xs (nI i + 1).toNatClampNeg) M).1) := by
    obtain ⟨h9, ⟨w1, f1, rfl, hd1', hpp⟩, hd2', rfl⟩ := hp
    rcases hpp with ⟨r, hp1, hv, hf⟩ | ⟨E, hp1, hv⟩
    · obtain ⟨X2, S2, rfl, hI2, hb2, ⟨ho, h0⟩ | ⟨E, he, _, _⟩⟩ := hst hp1
      · have e9 := Sum.inl.inj ho
        cases e9
        exact ⟨X2, S2, _, 0, rfl, ⟨hI2, hb2.trans hb, hd1', hd2'⟩, Sum.inl.inj hv, h0, fun _ => hf⟩
      · cases he
    · obtain ⟨X2, S2, rfl, hI2, hb2, ⟨ho, h0⟩ | ⟨E2, he, h0, hc⟩⟩ := hst hp1
      · cases ho
      · cases he
        refine ⟨X2, S2, _, _, rfl, ⟨hI2, hb2.trans hb, hd1', hd2'⟩, Sum.inl.inj hv, h0, fun z => ?_⟩
        rcases hc with rfl <;> exact absurd z (by decide)
  subst hv
  obtain ⟨hI2, hb2, hd1', hd2'⟩ := id hL2
  refine x_istore5 (pc := 2318) G dl_2318 (by decide) rfl ?_
  refine x_aload2 (pc := 2320) G dl_2320 ?_
  refine x_aload0 (pc := 2321) G dl_2321 ?_
  refine x_iload4 (pc := 2322) G dl_2322 ?_
  refine x_iconst (pc := 2324) (v := 1) G dl_2324 (by decide) ?_
  refine x_iadd (pc := 2325) G dl_2325 ?_
  refine x_sld (pc := 2326) G hX hbl hbA hx1 dl_2326 ?_
  have hr := rc_settle (k := k) hl hH hI.2.2.2 (p1 := (xs (nI i + 1).toNatClampNeg))
  refine Wx_perm hd2' ?_
  refine x_callV (pc := 2327) (bc1 := bc1) (bs1 := bs1) (n := 1) (As := [.int (xs (nI i + 1).toNatClampNeg)]) G (hr.frame (fun a ha z => hd2' a z ha)) (List.mem_append_left _ mW_mo.1) ((if_pos mW_mo.1).trans mW_mo.2) (show vwCl[12]? = some (_, _, _) from rfl) q_ml_L_272 q_im_yX11_settle q_se_yX11_settle q_in_X11 q_co_yX11_settle ⟨by decide, by decide, by decide +kernel⟩ ⟨Nat.le_of_ble_eq_true rfl, Nat.le_of_ble_eq_true rfl⟩ (Nat.zero_le _) (Nat.le_refl _) (Nat.le_refl _) rfl rfl dl_2327 (fun v w9 hp => ?_) (fun E w9 hp => by obtain ⟨_, hq, _⟩ := hp; cases hq.1)
  obtain ⟨h9, ⟨hv, rfl⟩, _, rfl⟩ := hp
  have hv := Sum.inl.inj hv
  subst hv
  refine Wx_perm (fun a ha z => hd2' a z ha) ?_
  refine x_lstore6 (pc := 2330) G dl_2330 (by decide) rfl ?_
  refine x_aload2 (pc := 2332) G dl_2332 ?_
  refine Wx_perm hd2' ?_
  refine x_callV (pc := 2333) (bc1 := bc1) (bs1 := bs1) (n := 0) (As := []) G ((c_thrown (k := k) (M := (f_settle (xs (nI i + 1).toNatClampNeg) M).2) hl hH).frame (fun a ha z => hd2' a z ha)) (List.mem_append_left _ mW_mo.1) ((if_pos mW_mo.1).trans mW_mo.2) (show vwCl[12]? = some (_, _, _) from rfl) q_ml_L_172 q_im_yX11_thrown q_se_yX11_thrown q_in_X11 q_co_yX11_thrown ⟨by decide, by decide, by decide +kernel⟩ ⟨Nat.le_of_ble_eq_true rfl, Nat.le_of_ble_eq_true rfl⟩ (Nat.zero_le _) (Nat.le_refl _) (Nat.le_refl _) rfl rfl dl_2333 (fun v w9 hp => ?_) (fun E w9 hp => by obtain ⟨_, hq, _⟩ := hp; cases hq.1)
  obtain ⟨h9, ⟨hv, rfl⟩, _, rfl⟩ := hp
  have hv := Sum.inl.inj hv
  subst hv
  refine Wx_perm (fun a ha z => hd2' a z ha) ?_
  refine x_iload5 (pc := 2336) G dl_2336 ?_
  refine x_icmp_eq (pc := 2338) (tgt := 2343) G dl_2338 rfl (fun _ => ?_) (fun z9 => absurd hk z9)
  refine x_iload5 (pc := 2343) G dl_2343 ?_
  refine x_if_ne (pc := 2345) (tgt := 2359) (y := 0) G dl_2345 rfl (fun _ => ?_) (fun z9 => ?_)
  · skip
    refine x_goto (pc := 2359) (tgt := 3248) G dl_2359 rfl ?_
    exact Wx_l8 (hend X2 S2 _ f2 hL2)
  · have hf := hz z9
    refine x_aload3 (pc := 2348) G dl_2348 ?_
    refine x_iconst (pc := 2349) (v := 0) G dl_2349 (by decide) ?_
    refine x_old (pc := 2350) G hd1' dl_2350 ?_
    refine x_lload6 (pc := 2351) G dl_2351 ?_
    refine x_lcmp (pc := 2353) G dl_2353 ?_
    refine x_if_eq (pc := 2354) (tgt := 2359) (y := 0) G dl_2354 rfl (fun _ => ?_) (fun z8 => absurd (lg_same hf) z8)
    refine x_goto (pc := 2359) (tgt := 3248) G dl_2359 rfl ?_
    exact Wx_l8 (hend X2 S2 _ f2 hL2)
theorem dl_2362 : decode cL_law 2362 = .ok (.aload_n 1, 1) := by decide +kernel
theorem dl_2363 : decode cL_law 2363 = .ok (.aload_n 0, 1) := by decide +kernel
theorem dl_2364 : decode cL_law 2364 = .ok (.iload 4, 2) := by decide +kernel
theorem dl_2366 : decode cL_law 2366 = .ok (.iconst 1, 1) := by decide +kernel
theorem dl_2367 : decode cL_law 2367 = .ok (.iadd, 1) := by decide +kernel
theorem dl_2368 : decode cL_law 2368 = .ok (.iaload, 1) := by decide +kernel
theorem dl_2369 : decode cL_law 2369 = .ok (.aload_n 0, 1) := by decide +kernel
theorem dl_2370 : decode cL_law 2370 = .ok (.iload 4, 2) := by decide +kernel
theorem dl_2372 : decode cL_law 2372 = .ok (.iconst 2, 1) := by decide +kernel
theorem dl_2373 : decode cL_law 2373 = .ok (.iadd, 1) := by decide +kernel
theorem dl_2374 : decode cL_law 2374 = .ok (.iaload, 1) := by decide +kernel
theorem dl_2375 : decode cL_law 2375 = .ok (.aload_n 3, 1) := by decide +kernel
theorem dl_2376 : decode cL_law 2376 = .ok (.invokestatic 273, 3) := by decide +kernel
theorem dl_2379 : decode cL_law 2379 = .ok (.istore 5, 2) := by decide +kernel
theorem dl_2381 : decode cL_law 2381 = .ok (.aload_n 2, 1) := by decide +kernel
theorem dl_2382 : decode cL_law 2382 = .ok (.aload_n 0, 1) := by decide +kernel
theorem dl_2383 : decode cL_law 2383 = .ok (.iload 4, 2) := by decide +kernel
theorem dl_2385 : decode cL_law 2385 = .ok (.iconst 1, 1) := by decide +kernel
theorem dl_2386 : decode cL_law 2386 = .ok (.iadd, 1) := by decide +kernel
theorem dl_2387 : decode cL_law 2387 = .ok (.iaload, 1) := by decide +kernel
theorem dl_2388 : decode cL_law 2388 = .ok (.aload_n 0, 1) := by decide +kernel
theorem dl_2389 : decode cL_law 2389 = .ok (.iload 4, 2) := by decide +kernel
theorem dl_2391 : decode cL_law 2391 = .ok (.iconst 2, 1) := by decide +kernel
theorem dl_2392 : decode cL_law 2392 = .ok (.iadd, 1) := by decide +kernel
theorem dl_2393 : decode cL_law 2393 = .ok (.iaload, 1) := by decide +kernel
theorem dl_2394 : decode cL_law 2394 = .ok (.invokevirtual 275, 3) := by decide +kernel
theorem dl_2397 : decode cL_law 2397 = .ok (.istore 6, 2) := by decide +kernel
theorem dl_2399 : decode cL_law 2399 = .ok (.aload_n 2, 1) := by decide +kernel
theorem dl_2400 : decode cL_law 2400 = .ok (.invokevirtual 172, 3) := by decide +kernel
theorem dl_2403 : decode cL_law 2403 = .ok (.iload 5, 2) := by decide +kernel
theorem dl_2405 : decode cL_law 2405 = .ok (.if_icmp .eq 5, 3) := by decide +kernel
theorem dl_2408 : decode cL_law 2408 = .ok (.iconst 0, 1) := by decide +kernel
theorem dl_2409 : decode cL_law 2409 = .ok (.ireturn, 1) := by decide +kernel
theorem dl_2410 : decode cL_law 2410 = .ok (.iload 5, 2) := by decide +kernel
theorem dl_2412 : decode cL_law 2412 = .ok (.ifCond .ne 15, 3) := by decide +kernel
theorem dl_2415 : decode cL_law 2415 = .ok (.aload_n 3, 1) := by decide +kernel
theorem dl_2416 : decode cL_law 2416 = .ok (.iconst 0, 1) := by decide +kernel
theorem dl_2417 : decode cL_law 2417 = .ok (.laload, 1) := by decide +kernel
theorem dl_2418 : decode cL_law 2418 = .ok (.iload 6, 2) := by decide +kernel
theorem dl_2420 : decode cL_law 2420 = .ok (.i2l, 1) := by decide +kernel
theorem dl_2421 : decode cL_law 2421 = .ok (.lcmp, 1) := by decide +kernel
theorem dl_2422 : decode cL_law 2422 = .ok (.ifCond .eq 5, 3) := by decide +kernel
theorem dl_2425 : decode cL_law 2425 = .ok (.iconst 0, 1) := by decide +kernel
theorem dl_2426 : decode cL_law 2426 = .ok (.ireturn, 1) := by decide +kernel
theorem dl_2427 : decode cL_law 2427 = .ok (.goto 821, 3) := by decide +kernel
set_option maxRecDepth 100000 in
set_option maxHeartbeats 4000000 in
theorem lk_card {p : Program} {l : Launch} {e : Env} {s : State} {m : MethodId} {args : Array Value} {below : List Frame} {meth : Method} {c : Code} {k : KC} {A : Nat → Prop} {Q : State → Prop} {bc1 bs1 b0 Ln b ao mo i : Nat} {xs : Nat → Int32} {ad : Nat → Nat} {f : Nat → Int64} {X : CX} {S : CT} {M : MS} {rt9 : Option FieldType} (hl : l.stackTraces = false) (G : GX p l room_1 s m args meth c k A RL cL_law 8 rt9) (hX : va_X b0 Ln xs s s.heap) (hbl : b0 < s.heap.size) (hbA : ¬ A b0) (hH : HM mo ad) (hi : i + 8 ≤ Ln) (hL : Ln ≤ 4096) (h : LV9 k b X S ao f mo ad M) (hend : ∀ X2 S2 M2 f2, LV9 k b X2 S2 ao f2 mo ad M2 → Wx p l e room_1 s m args below meth c k A 8 Q bc1 bs1 3248 [some (.ref b0), some (.ref b), some (.ref mo), some (.ref ao), some (.int (nI i)), none, none, none] [] (WL k X2 S2 ao f2 mo ad M2)) : Wx p l e room_1 s m args below meth c k A 8 Q (bc1 + 2) (bs1 + 76) 2362 [some (.ref b0), some (.ref b), some (.ref mo), some (.ref ao), some (.int (nI i)), none, none, none] [] (WL k X S ao f mo ad M) := by
  obtain ⟨hI, hb, hd1, hd2⟩ := h
  obtain ⟨hbm, fs, hbf⟩ := cw11 (k := k) (S := S) hI.1 hb
  have hvr := vr11 hb
  have hx1 : vp_in (nI i + 1) Ln := ix_in (j := 1) rfl (by omega) hL
  have hx2 : vp_in (nI i + 2) Ln := ix_in (j := 2) rfl (by omega) hL
  unfold WL
  refine x_aload1 (pc := 2362) G dl_2362 ?_
  refine x_aload0 (pc := 2363) G dl_2363 ?_
  refine x_iload4 (pc := 2364) G dl_2364 ?_
  refine x_iconst (pc := 2366) (v := 1) G dl_2366 (by decide) ?_
  refine x_iadd (pc := 2367) G dl_2367 ?_
  refine x_sld (pc := 2368) G hX hbl hbA hx1 dl_2368 ?_
  refine x_aload0 (pc := 2369) G dl_2369 ?_
  refine x_iload4 (pc := 2370) G dl_2370 ?_
  refine x_iconst (pc := 2372) (v := 2) G dl_2372 (by decide) ?_
  refine x_iadd (pc := 2373) G dl_2373 ?_
  refine x_sld (pc := 2374) G hX hbl hbA hx2 dl_2374 ?_
  refine x_aload3 (pc := 2375) G dl_2375 ?_
  have hC := kc_card (k := k) hl hI (p1 := (xs (nI i + 1).toNatClampNeg)) (p2 := (xs (nI i + 2).toNatClampNeg))
  rw [hvr] at hC
  have hst := fun {o : Out} {w : Wd} => so_card (k := k) (o := o) (w := w) (p1 := (xs (nI i + 1).toNatClampNeg)) (p2 := (xs (nI i + 2).toNatClampNeg)) hI
  have hh := ch_card hl hbm hbf hd1 hC (fun o w hp => by
    obtain ⟨_, _, _, _, _, ⟨ho, _⟩ | ⟨E, he, _, hc⟩⟩ := hst hp
    · exact Or.inl ⟨_, ho⟩
    · exact Or.inr ⟨E, he, hc⟩)
  have hh := MI.frame hh hd2
  refine x_callSW (pc := 2376) (bc1 := bc1) (bs1 := bs1) (n := 4) (As := [.ref b, .int (xs (nI i + 1).toNatClampNeg), .int (xs (nI i + 2).toNatClampNeg), .ref ao]) G hh q_ml_L_273 q_st_yL_card q_in_L q_cw_card ⟨by decide, by decide, by decide +kernel⟩ ⟨Nat.le_of_ble_eq_true rfl, Nat.le_of_ble_eq_true rfl⟩ (Nat.zero_le _) (Nat.le_refl _) (Nat.le_refl _) rfl rfl dl_2376 (fun v w9 hp => ?_)
  obtain ⟨X2, S2, f2, kc, rfl, hL2, hv, hk, hz⟩ : ∃ X2 S2 f2 kc, w9 = wu (wu (cW k X2 S2) (oW k ao f2)) (mW k mo ad M) ∧ LV9 k b X2 S2 ao f2 mo ad (f_card (xs (nI i + 1).toNatClampNeg) (xs (nI i + 2).toNatClampNeg) M).2 ∧ v = some (.int kc) ∧ mI (f_card (xs (nI i + 1).toNatClampNeg) (xs (nI i + 2).toNatClampNeg) M).2 0 = kc ∧ (kc = 0 → f2 0 = (f_card (xs (nI i + 1).toNatClampNeg) (xs (nI i + 2).toNatClampNeg) M).1.toInt64) := by
    obtain ⟨h9, ⟨w1, f1, rfl, hd1', hpp⟩, hd2', rfl⟩ := hp
    rcases hpp with ⟨r, hp1, hv, hf⟩ | ⟨E, hp1, hv⟩
    · obtain ⟨X2, S2, rfl, hI2, hb2, ⟨ho, h0⟩ | ⟨E, he, _, _⟩⟩ := hst hp1
      · have e9 := Sum.inl.inj ho
        cases e9
        exact ⟨X2, S2, _, 0, rfl, ⟨hI2, hb2.trans hb, hd1', hd2'⟩, Sum.inl.inj hv, h0, fun _ => hf⟩
      · cases he
    · obtain ⟨X2, S2, rfl, hI2, hb2, ⟨ho, h0⟩ | ⟨E2, he, h0, hc⟩⟩ := hst hp1
      · cases ho
      · cases he
        refine ⟨X2, S2, _, _, rfl, ⟨hI2, hb2.trans hb, hd1', hd2'⟩, Sum.inl.inj hv, h0, fun z => ?_⟩
        rcases hc with rfl | rfl | rfl <;> exact absurd z (by decide)
  subst hv
  obtain ⟨hI2, hb2, hd1', hd2'⟩ := id hL2
  refine x_istore5 (pc := 2379) G dl_2379 (by decide) rfl ?_
  refine x_aload2 (pc := 2381) G dl_2381 ?_
  refine x_aload0 (pc := 2382) G dl_2382 ?_
  refine x_iload4 (pc := 2383) G dl_2383 ?_
  refine x_iconst (pc := 2385) (v := 1) G dl_2385 (by decide) ?_
  refine x_iadd (pc := 2386) G dl_2386 ?_
  refine x_sld (pc := 2387) G hX hbl hbA hx1 dl_2387 ?_
  refine x_aload0 (pc := 2388) G dl_2388 ?_
  refine x_iload4 (pc := 2389) G dl_2389 ?_
  refine x_iconst (pc := 2391) (v := 2) G dl_2391 (by decide) ?_
  refine x_iadd (pc := 2392) G dl_2392 ?_
  refine x_sld (pc := 2393) G hX hbl hbA hx2 dl_2393 ?_
  have hr := rc_card (k := k) hl hH hI.2.2.2 (p1 := (xs (nI i + 1).toNatClampNeg)) (p2 := (xs (nI i + 2).toNatClampNeg))
  refine Wx_perm hd2' ?_
  refine x_callV (pc := 2394) (bc1 := bc1) (bs1 := bs1) (n := 2) (As := [.int (xs (nI i + 1).toNatClampNeg), .int (xs (nI i + 2).toNatClampNeg)]) G (hr.frame (fun a ha z => hd2' a z ha)) (List.mem_append_left _ mW_mo.1) ((if_pos mW_mo.1).trans mW_mo.2) (show vwCl[12]? = some (_, _, _) from rfl) q_ml_L_275 q_im_yX11_card q_se_yX11_card q_in_X11 q_co_yX11_card ⟨by decide, by decide, by decide +kernel⟩ ⟨Nat.le_of_ble_eq_true rfl, Nat.le_of_ble_eq_true rfl⟩ (Nat.zero_le _) (Nat.le_refl _) (Nat.le_refl _) rfl rfl dl_2394 (fun v w9 hp => ?_) (fun E w9 hp => by obtain ⟨_, hq, _⟩ := hp; cases hq.1)
  obtain ⟨h9, ⟨hv, rfl⟩, _, rfl⟩ := hp
  have hv := Sum.inl.inj hv
  subst hv
  refine Wx_perm (fun a ha z => hd2' a z ha) ?_
  refine x_istore6 (pc := 2397) G dl_2397 (by decide) rfl ?_
  refine x_aload2 (pc := 2399) G dl_2399 ?_
  refine Wx_perm hd2' ?_
  refine x_callV (pc := 2400) (bc1 := bc1) (bs1 := bs1) (n := 0) (As := []) G ((c_thrown (k := k) (M := (f_card (xs (nI i + 1).toNatClampNeg) (xs (nI i + 2).toNatClampNeg) M).2) hl hH).frame (fun a ha z => hd2' a z ha)) (List.mem_append_left _ mW_mo.1) ((if_pos mW_mo.1).trans mW_mo.2) (show vwCl[12]? = some (_, _, _) from rfl) q_ml_L_172 q_im_yX11_thrown q_se_yX11_thrown q_in_X11 q_co_yX11_thrown ⟨by decide, by decide, by decide +kernel⟩ ⟨Nat.le_of_ble_eq_true rfl, Nat.le_of_ble_eq_true rfl⟩ (Nat.zero_le _) (Nat.le_refl _) (Nat.le_refl _) rfl rfl dl_2400 (fun v w9 hp => ?_) (fun E w9 hp => by obtain ⟨_, hq, _⟩ := hp; cases hq.1)
  obtain ⟨h9, ⟨hv, rfl⟩, _, rfl⟩ := hp
  have hv := Sum.inl.inj hv
  subst hv
  refine Wx_perm (fun a ha z => hd2' a z ha) ?_
  refine x_iload5 (pc := 2403) G dl_2403 ?_
  refine x_icmp_eq (pc := 2405) (tgt := 2410) G dl_2405 rfl (fun _ => ?_) (fun z9 => absurd hk z9)
  refine x_iload5 (pc := 2410) G dl_2410 ?_
  refine x_if_ne (pc := 2412) (tgt := 2427) (y := 0) G dl_2412 rfl (fun _ => ?_) (fun z9 => ?_)
  · skip
    refine x_goto (pc := 2427) (tgt := 3248) G dl_2427 rfl ?_
    exact Wx_l8 (hend X2 S2 _ f2 hL2)
  · have hf := hz z9
    refine x_aload3 (pc := 2415) G dl_2415 ?_
    refine x_iconst (pc := 2416) (v := 0) G dl_2416 (by decide) ?_
    refine x_old (pc := 2417) G hd1' dl_2417 ?_
    refine x_iload6 (pc := 2418) G dl_2418 ?_
    refine x_i2l (pc := 2420) G dl_2420 ?_
    refine x_lcmp (pc := 2421) G dl_2421 ?_
    refine x_if_eq (pc := 2422) (tgt := 2427) (y := 0) G dl_2422 rfl (fun _ => ?_) (fun z8 => absurd (lg_same hf) z8)
    refine x_goto (pc := 2427) (tgt := 3248) G dl_2427 rfl ?_
    exact Wx_l8 (hend X2 S2 _ f2 hL2)
theorem dl_2430 : decode cL_law 2430 = .ok (.aload_n 1, 1) := by decide +kernel
theorem dl_2431 : decode cL_law 2431 = .ok (.aload_n 0, 1) := by decide +kernel
theorem dl_2432 : decode cL_law 2432 = .ok (.iload 4, 2) := by decide +kernel
theorem dl_2434 : decode cL_law 2434 = .ok (.iconst 1, 1) := by decide +kernel
theorem dl_2435 : decode cL_law 2435 = .ok (.iadd, 1) := by decide +kernel
theorem dl_2436 : decode cL_law 2436 = .ok (.iaload, 1) := by decide +kernel
theorem dl_2437 : decode cL_law 2437 = .ok (.aload_n 0, 1) := by decide +kernel
theorem dl_2438 : decode cL_law 2438 = .ok (.iload 4, 2) := by decide +kernel
theorem dl_2440 : decode cL_law 2440 = .ok (.iconst 2, 1) := by decide +kernel
theorem dl_2441 : decode cL_law 2441 = .ok (.iadd, 1) := by decide +kernel
theorem dl_2442 : decode cL_law 2442 = .ok (.iaload, 1) := by decide +kernel
theorem dl_2443 : decode cL_law 2443 = .ok (.aload_n 0, 1) := by decide +kernel
theorem dl_2444 : decode cL_law 2444 = .ok (.iload 4, 2) := by decide +kernel
theorem dl_2446 : decode cL_law 2446 = .ok (.iconst 3, 1) := by decide +kernel
theorem dl_2447 : decode cL_law 2447 = .ok (.iadd, 1) := by decide +kernel
theorem dl_2448 : decode cL_law 2448 = .ok (.iaload, 1) := by decide +kernel
theorem dl_2449 : decode cL_law 2449 = .ok (.aload_n 3, 1) := by decide +kernel
theorem dl_2450 : decode cL_law 2450 = .ok (.invokestatic 276, 3) := by decide +kernel
theorem dl_2453 : decode cL_law 2453 = .ok (.istore 5, 2) := by decide +kernel
theorem dl_2455 : decode cL_law 2455 = .ok (.aload_n 2, 1) := by decide +kernel
theorem dl_2456 : decode cL_law 2456 = .ok (.aload_n 0, 1) := by decide +kernel
theorem dl_2457 : decode cL_law 2457 = .ok (.iload 4, 2) := by decide +kernel
theorem dl_2459 : decode cL_law 2459 = .ok (.iconst 1, 1) := by decide +kernel
theorem dl_2460 : decode cL_law 2460 = .ok (.iadd, 1) := by decide +kernel
theorem dl_2461 : decode cL_law 2461 = .ok (.iaload, 1) := by decide +kernel
theorem dl_2462 : decode cL_law 2462 = .ok (.aload_n 0, 1) := by decide +kernel
theorem dl_2463 : decode cL_law 2463 = .ok (.iload 4, 2) := by decide +kernel
theorem dl_2465 : decode cL_law 2465 = .ok (.iconst 2, 1) := by decide +kernel
theorem dl_2466 : decode cL_law 2466 = .ok (.iadd, 1) := by decide +kernel
theorem dl_2467 : decode cL_law 2467 = .ok (.iaload, 1) := by decide +kernel
theorem dl_2468 : decode cL_law 2468 = .ok (.aload_n 0, 1) := by decide +kernel
theorem dl_2469 : decode cL_law 2469 = .ok (.iload 4, 2) := by decide +kernel
theorem dl_2471 : decode cL_law 2471 = .ok (.iconst 3, 1) := by decide +kernel
theorem dl_2472 : decode cL_law 2472 = .ok (.iadd, 1) := by decide +kernel
theorem dl_2473 : decode cL_law 2473 = .ok (.iaload, 1) := by decide +kernel
theorem dl_2474 : decode cL_law 2474 = .ok (.invokevirtual 278, 3) := by decide +kernel
theorem dl_2477 : decode cL_law 2477 = .ok (.lstore 6, 2) := by decide +kernel
theorem dl_2479 : decode cL_law 2479 = .ok (.aload_n 2, 1) := by decide +kernel
theorem dl_2480 : decode cL_law 2480 = .ok (.invokevirtual 172, 3) := by decide +kernel
theorem dl_2483 : decode cL_law 2483 = .ok (.iload 5, 2) := by decide +kernel
theorem dl_2485 : decode cL_law 2485 = .ok (.if_icmp .eq 5, 3) := by decide +kernel
theorem dl_2488 : decode cL_law 2488 = .ok (.iconst 0, 1) := by decide +kernel
theorem dl_2489 : decode cL_law 2489 = .ok (.ireturn, 1) := by decide +kernel
theorem dl_2490 : decode cL_law 2490 = .ok (.iload 5, 2) := by decide +kernel
theorem dl_2492 : decode cL_law 2492 = .ok (.ifCond .ne 14, 3) := by decide +kernel
theorem dl_2495 : decode cL_law 2495 = .ok (.aload_n 3, 1) := by decide +kernel
theorem dl_2496 : decode cL_law 2496 = .ok (.iconst 0, 1) := by decide +kernel
theorem dl_2497 : decode cL_law 2497 = .ok (.laload, 1) := by decide +kernel
theorem dl_2498 : decode cL_law 2498 = .ok (.lload 6, 2) := by decide +kernel
theorem dl_2500 : decode cL_law 2500 = .ok (.lcmp, 1) := by decide +kernel
theorem dl_2501 : decode cL_law 2501 = .ok (.ifCond .eq 5, 3) := by decide +kernel
theorem dl_2504 : decode cL_law 2504 = .ok (.iconst 0, 1) := by decide +kernel
theorem dl_2505 : decode cL_law 2505 = .ok (.ireturn, 1) := by decide +kernel
theorem dl_2506 : decode cL_law 2506 = .ok (.goto 742, 3) := by decide +kernel
set_option maxRecDepth 100000 in
set_option maxHeartbeats 4000000 in
theorem lk_tell {p : Program} {l : Launch} {e : Env} {s : State} {m : MethodId} {args : Array Value} {below : List Frame} {meth : Method} {c : Code} {k : KC} {A : Nat → Prop} {Q : State → Prop} {bc1 bs1 b0 Ln b ao mo i : Nat} {xs : Nat → Int32} {ad : Nat → Nat} {f : Nat → Int64} {X : CX} {S : CT} {M : MS} {rt9 : Option FieldType} (hl : l.stackTraces = false) (G : GX p l room_1 s m args meth c k A RL cL_law 8 rt9) (hX : va_X b0 Ln xs s s.heap) (hbl : b0 < s.heap.size) (hbA : ¬ A b0) (hH : HM mo ad) (hi : i + 8 ≤ Ln) (hL : Ln ≤ 4096) (h : LV9 k b X S ao f mo ad M) (hend : ∀ X2 S2 M2 f2, LV9 k b X2 S2 ao f2 mo ad M2 → Wx p l e room_1 s m args below meth c k A 8 Q bc1 bs1 3248 [some (.ref b0), some (.ref b), some (.ref mo), some (.ref ao), some (.int (nI i)), none, none, none] [] (WL k X2 S2 ao f2 mo ad M2)) : Wx p l e room_1 s m args below meth c k A 8 Q (bc1 + 1) (bs1 + 6) 2430 [some (.ref b0), some (.ref b), some (.ref mo), some (.ref ao), some (.int (nI i)), none, none, none] [] (WL k X S ao f mo ad M) := by
  obtain ⟨hI, hb, hd1, hd2⟩ := h
  obtain ⟨hbm, fs, hbf⟩ := cw11 (k := k) (S := S) hI.1 hb
  have hvr := vr11 hb
  have hx1 : vp_in (nI i + 1) Ln := ix_in (j := 1) rfl (by omega) hL
  have hx2 : vp_in (nI i + 2) Ln := ix_in (j := 2) rfl (by omega) hL
  have hx3 : vp_in (nI i + 3) Ln := ix_in (j := 3) rfl (by omega) hL
  unfold WL
  refine x_aload1 (pc := 2430) G dl_2430 ?_
  refine x_aload0 (pc := 2431) G dl_2431 ?_
  refine x_iload4 (pc := 2432) G dl_2432 ?_
  refine x_iconst (pc := 2434) (v := 1) G dl_2434 (by decide) ?_
  refine x_iadd (pc := 2435) G dl_2435 ?_
  refine x_sld (pc := 2436) G hX hbl hbA hx1 dl_2436 ?_
  refine x_aload0 (pc := 2437) G dl_2437 ?_
  refine x_iload4 (pc := 2438) G dl_2438 ?_
  refine x_iconst (pc := 2440) (v := 2) G dl_2440 (by decide) ?_
  refine x_iadd (pc := 2441) G dl_2441 ?_
  refine x_sld (pc := 2442) G hX hbl hbA hx2 dl_2442 ?_
  refine x_aload0 (pc := 2443) G dl_2443 ?_
  refine x_iload4 (pc := 2444) G dl_2444 ?_
  refine x_iconst (pc := 2446) (v := 3) G dl_2446 (by decide) ?_
  refine x_iadd (pc := 2447) G dl_2447 ?_
  refine x_sld (pc := 2448) G hX hbl hbA hx3 dl_2448 ?_
  refine x_aload3 (pc := 2449) G dl_2449 ?_
  have hC := kc_tell (k := k) hl hI (p1 := (xs (nI i + 1).toNatClampNeg)) (p2 := (xs (nI i + 2).toNatClampNeg)) (p3 := (xs (nI i + 3).toNatClampNeg))
  rw [hvr] at hC
  have hst := fun {o : Out} {w : Wd} => so_tell (k := k) (o := o) (w := w) (p1 := (xs (nI i + 1).toNatClampNeg)) (p2 := (xs (nI i + 2).toNatClampNeg)) (p3 := (xs (nI i + 3).toNatClampNeg)) hI
  have hh := ch_tell hl hbm hbf hd1 hC (fun o w hp => by
    obtain ⟨_, _, _, _, _, ⟨ho, _⟩ | ⟨E, he, _, hc⟩⟩ := hst hp
    · exact Or.inl ⟨_, ho⟩
    · exact Or.inr ⟨E, he, hc⟩)
  have hh := MI.frame hh hd2
  refine x_callSW (pc := 2450) (bc1 := bc1) (bs1 := bs1) (n := 5) (As := [.ref b, .int (xs (nI i + 1).toNatClampNeg), .int (xs (nI i + 2).toNatClampNeg), .int (xs (nI i + 3).toNatClampNeg), .ref ao]) G hh q_ml_L_276 q_st_yL_tell q_in_L q_cw_tell ⟨by decide, by decide, by decide +kernel⟩ ⟨Nat.le_of_ble_eq_true rfl, Nat.le_of_ble_eq_true rfl⟩ (Nat.zero_le _) (Nat.le_refl _) (Nat.le_refl _) rfl rfl dl_2450 (fun v w9 hp => ?_)
  obtain ⟨X2, S2, f2, kc, rfl, hL2, hv, hk, hz⟩ : ∃ X2 S2 f2 kc, w9 = wu (wu (cW k X2 S2) (oW k ao f2)) (mW k mo ad M) ∧ LV9 k b X2 S2 ao f2 mo ad (f_tell (xs (nI i + 1).toNatClampNeg) (xs (nI i + 2).toNatClampNeg) (xs (nI i + 3).toNatClampNeg) M).2 ∧ v = some (.int kc) ∧ mI (f_tell (xs (nI i + 1).toNatClampNeg) (xs (nI i + 2).toNatClampNeg) (xs (nI i + 3).toNatClampNeg) M).2 0 = kc ∧ (kc = 0 → f2 0 = (f_tell (xs (nI i + 1).toNatClampNeg) (xs (nI i + 2).toNatClampNeg) (xs (nI i + 3).toNatClampNeg) M).1) := by
    obtain ⟨h9, ⟨w1, f1, rfl, hd1', hpp⟩, hd2', rfl⟩ := hp
    rcases hpp with ⟨r, hp1, hv, hf⟩ | ⟨E, hp1, hv⟩
    · obtain ⟨X2, S2, rfl, hI2, hb2, ⟨ho, h0⟩ | ⟨E, he, _, _⟩⟩ := hst hp1
      · have e9 := Sum.inl.inj ho
        cases e9
        exact ⟨X2, S2, _, 0, rfl, ⟨hI2, hb2.trans hb, hd1', hd2'⟩, Sum.inl.inj hv, h0, fun _ => hf⟩
      · cases he
    · obtain ⟨X2, S2, rfl, hI2, hb2, ⟨ho, h0⟩ | ⟨E2, he, h0, hc⟩⟩ := hst hp1
      · cases ho
      · cases he
        refine ⟨X2, S2, _, _, rfl, ⟨hI2, hb2.trans hb, hd1', hd2'⟩, Sum.inl.inj hv, h0, fun z => ?_⟩
        rcases hc with rfl | rfl | rfl <;> exact absurd z (by decide)
  subst hv
  obtain ⟨hI2, hb2, hd1', hd2'⟩ := id hL2
  refine x_istore5 (pc := 2453) G dl_2453 (by decide) rfl ?_
  refine x_aload2 (pc := 2455) G dl_2455 ?_
  refine x_aload0 (pc := 2456) G dl_2456 ?_
  refine x_iload4 (pc := 2457) G dl_2457 ?_
  refine x_iconst (pc := 2459) (v := 1) G dl_2459 (by decide) ?_
  refine x_iadd (pc := 2460) G dl_2460 ?_
  refine x_sld (pc := 2461) G hX hbl hbA hx1 dl_2461 ?_
  refine x_aload0 (pc := 2462) G dl_2462 ?_
  refine x_iload4 (pc := 2463) G dl_2463 ?_
  refine x_iconst (pc := 2465) (v := 2) G dl_2465 (by decide) ?_
  refine x_iadd (pc := 2466) G dl_2466 ?_
  refine x_sld (pc := 2467) G hX hbl hbA hx2 dl_2467 ?_
  refine x_aload0 (pc := 2468) G dl_2468 ?_
  refine x_iload4 (pc := 2469) G dl_2469 ?_
  refine x_iconst (pc := 2471) (v := 3) G dl_2471 (by decide) ?_
  refine x_iadd (pc := 2472) G dl_2472 ?_
  refine x_sld (pc := 2473) G hX hbl hbA hx3 dl_2473 ?_
  have hr := rc_tell (k := k) hl hH hI.2.2.2 (p1 := (xs (nI i + 1).toNatClampNeg)) (p2 := (xs (nI i + 2).toNatClampNeg)) (p3 := (xs (nI i + 3).toNatClampNeg))
  refine Wx_perm hd2' ?_
  refine x_callV (pc := 2474) (bc1 := bc1) (bs1 := bs1) (n := 3) (As := [.int (xs (nI i + 1).toNatClampNeg), .int (xs (nI i + 2).toNatClampNeg), .int (xs (nI i + 3).toNatClampNeg)]) G (hr.frame (fun a ha z => hd2' a z ha)) (List.mem_append_left _ mW_mo.1) ((if_pos mW_mo.1).trans mW_mo.2) (show vwCl[12]? = some (_, _, _) from rfl) q_ml_L_278 q_im_yX11_tell q_se_yX11_tell q_in_X11 q_co_yX11_tell ⟨by decide, by decide, by decide +kernel⟩ ⟨Nat.le_of_ble_eq_true rfl, Nat.le_of_ble_eq_true rfl⟩ (Nat.zero_le _) (Nat.le_refl _) (Nat.le_refl _) rfl rfl dl_2474 (fun v w9 hp => ?_) (fun E w9 hp => by obtain ⟨_, hq, _⟩ := hp; cases hq.1)
  obtain ⟨h9, ⟨hv, rfl⟩, _, rfl⟩ := hp
  have hv := Sum.inl.inj hv
  subst hv
  refine Wx_perm (fun a ha z => hd2' a z ha) ?_
  refine x_lstore6 (pc := 2477) G dl_2477 (by decide) rfl ?_
  refine x_aload2 (pc := 2479) G dl_2479 ?_
  refine Wx_perm hd2' ?_
  refine x_callV (pc := 2480) (bc1 := bc1) (bs1 := bs1) (n := 0) (As := []) G ((c_thrown (k := k) (M := (f_tell (xs (nI i + 1).toNatClampNeg) (xs (nI i + 2).toNatClampNeg) (xs (nI i + 3).toNatClampNeg) M).2) hl hH).frame (fun a ha z => hd2' a z ha)) (List.mem_append_left _ mW_mo.1) ((if_pos mW_mo.1).trans mW_mo.2) (show vwCl[12]? = some (_, _, _) from rfl) q_ml_L_172 q_im_yX11_thrown q_se_yX11_thrown q_in_X11 q_co_yX11_thrown ⟨by decide, by decide, by decide +kernel⟩ ⟨Nat.le_of_ble_eq_true rfl, Nat.le_of_ble_eq_true rfl⟩ (Nat.zero_le _) (Nat.le_refl _) (Nat.le_refl _) rfl rfl dl_2480 (fun v w9 hp => ?_) (fun E w9 hp => by obtain ⟨_, hq, _⟩ := hp; cases hq.1)
  obtain ⟨h9, ⟨hv, rfl⟩, _, rfl⟩ := hp
  have hv := Sum.inl.inj hv
  subst hv
  refine Wx_perm (fun a ha z => hd2' a z ha) ?_
  refine x_iload5 (pc := 2483) G dl_2483 ?_
  refine x_icmp_eq (pc := 2485) (tgt := 2490) G dl_2485 rfl (fun _ => ?_) (fun z9 => absurd hk z9)
  refine x_iload5 (pc := 2490) G dl_2490 ?_
  refine x_if_ne (pc := 2492) (tgt := 2506) (y := 0) G dl_2492 rfl (fun _ => ?_) (fun z9 => ?_)
  · skip
    refine x_goto (pc := 2506) (tgt := 3248) G dl_2506 rfl ?_
    exact Wx_l8 (hend X2 S2 _ f2 hL2)
  · have hf := hz z9
    refine x_aload3 (pc := 2495) G dl_2495 ?_
    refine x_iconst (pc := 2496) (v := 0) G dl_2496 (by decide) ?_
    refine x_old (pc := 2497) G hd1' dl_2497 ?_
    refine x_lload6 (pc := 2498) G dl_2498 ?_
    refine x_lcmp (pc := 2500) G dl_2500 ?_
    refine x_if_eq (pc := 2501) (tgt := 2506) (y := 0) G dl_2501 rfl (fun _ => ?_) (fun z8 => absurd (lg_same hf) z8)
    refine x_goto (pc := 2506) (tgt := 3248) G dl_2506 rfl ?_
    exact Wx_l8 (hend X2 S2 _ f2 hL2)
theorem dl_2523 : decode cL_law 2523 = .ok (.aload_n 1, 1) := by decide +kernel
theorem dl_2524 : decode cL_law 2524 = .ok (.aload_n 0, 1) := by decide +kernel
theorem dl_2525 : decode cL_law 2525 = .ok (.iload 4, 2) := by decide +kernel
theorem dl_2527 : decode cL_law 2527 = .ok (.iconst 1, 1) := by decide +kernel
theorem dl_2528 : decode cL_law 2528 = .ok (.iadd, 1) := by decide +kernel
theorem dl_2529 : decode cL_law 2529 = .ok (.iaload, 1) := by decide +kernel
theorem dl_2530 : decode cL_law 2530 = .ok (.aload_n 0, 1) := by decide +kernel
theorem dl_2531 : decode cL_law 2531 = .ok (.iload 4, 2) := by decide +kernel
theorem dl_2533 : decode cL_law 2533 = .ok (.iconst 2, 1) := by decide +kernel
theorem dl_2534 : decode cL_law 2534 = .ok (.iadd, 1) := by decide +kernel
theorem dl_2535 : decode cL_law 2535 = .ok (.iaload, 1) := by decide +kernel
theorem dl_2536 : decode cL_law 2536 = .ok (.invokestatic 284, 3) := by decide +kernel
theorem dl_2539 : decode cL_law 2539 = .ok (.istore 5, 2) := by decide +kernel
theorem dl_2541 : decode cL_law 2541 = .ok (.aload_n 2, 1) := by decide +kernel
theorem dl_2542 : decode cL_law 2542 = .ok (.aload_n 0, 1) := by decide +kernel
theorem dl_2543 : decode cL_law 2543 = .ok (.iload 4, 2) := by decide +kernel
theorem dl_2545 : decode cL_law 2545 = .ok (.iconst 1, 1) := by decide +kernel
theorem dl_2546 : decode cL_law 2546 = .ok (.iadd, 1) := by decide +kernel
theorem dl_2547 : decode cL_law 2547 = .ok (.iaload, 1) := by decide +kernel
theorem dl_2548 : decode cL_law 2548 = .ok (.aload_n 0, 1) := by decide +kernel
theorem dl_2549 : decode cL_law 2549 = .ok (.iload 4, 2) := by decide +kernel
theorem dl_2551 : decode cL_law 2551 = .ok (.iconst 2, 1) := by decide +kernel
theorem dl_2552 : decode cL_law 2552 = .ok (.iadd, 1) := by decide +kernel
theorem dl_2553 : decode cL_law 2553 = .ok (.iaload, 1) := by decide +kernel
theorem dl_2554 : decode cL_law 2554 = .ok (.invokevirtual 286, 3) := by decide +kernel
theorem dl_2557 : decode cL_law 2557 = .ok (.aload_n 2, 1) := by decide +kernel
theorem dl_2558 : decode cL_law 2558 = .ok (.invokevirtual 172, 3) := by decide +kernel
theorem dl_2561 : decode cL_law 2561 = .ok (.iload 5, 2) := by decide +kernel
theorem dl_2563 : decode cL_law 2563 = .ok (.if_icmp .eq 5, 3) := by decide +kernel
theorem dl_2566 : decode cL_law 2566 = .ok (.iconst 0, 1) := by decide +kernel
theorem dl_2567 : decode cL_law 2567 = .ok (.ireturn, 1) := by decide +kernel
theorem dl_2568 : decode cL_law 2568 = .ok (.goto 680, 3) := by decide +kernel
set_option maxRecDepth 100000 in
set_option maxHeartbeats 4000000 in
theorem lk_sample {p : Program} {l : Launch} {e : Env} {s : State} {m : MethodId} {args : Array Value} {below : List Frame} {meth : Method} {c : Code} {k : KC} {A : Nat → Prop} {Q : State → Prop} {bc1 bs1 b0 Ln b ao mo i : Nat} {xs : Nat → Int32} {ad : Nat → Nat} {f : Nat → Int64} {X : CX} {S : CT} {M : MS} {rt9 : Option FieldType} (hl : l.stackTraces = false) (G : GX p l room_1 s m args meth c k A RL cL_law 8 rt9) (hX : va_X b0 Ln xs s s.heap) (hbl : b0 < s.heap.size) (hbA : ¬ A b0) (hH : HM mo ad) (hi : i + 8 ≤ Ln) (hL : Ln ≤ 4096) (h : LV9 k b X S ao f mo ad M) (hend : ∀ X2 S2 M2 f2, LV9 k b X2 S2 ao f2 mo ad M2 → Wx p l e room_1 s m args below meth c k A 8 Q bc1 bs1 3248 [some (.ref b0), some (.ref b), some (.ref mo), some (.ref ao), some (.int (nI i)), none, none, none] [] (WL k X2 S2 ao f2 mo ad M2)) : Wx p l e room_1 s m args below meth c k A 8 Q (bc1 + 1) (bs1 + 6) 2523 [some (.ref b0), some (.ref b), some (.ref mo), some (.ref ao), some (.int (nI i)), none, none, none] [] (WL k X S ao f mo ad M) := by
  obtain ⟨hI, hb, hd1, hd2⟩ := h
  obtain ⟨hbm, fs, hbf⟩ := cw11 (k := k) (S := S) hI.1 hb
  have hvr := vr11 hb
  have hx1 : vp_in (nI i + 1) Ln := ix_in (j := 1) rfl (by omega) hL
  have hx2 : vp_in (nI i + 2) Ln := ix_in (j := 2) rfl (by omega) hL
  unfold WL
  refine x_aload1 (pc := 2523) G dl_2523 ?_
  refine x_aload0 (pc := 2524) G dl_2524 ?_
  refine x_iload4 (pc := 2525) G dl_2525 ?_
  refine x_iconst (pc := 2527) (v := 1) G dl_2527 (by decide) ?_
  refine x_iadd (pc := 2528) G dl_2528 ?_
  refine x_sld (pc := 2529) G hX hbl hbA hx1 dl_2529 ?_
  refine x_aload0 (pc := 2530) G dl_2530 ?_
  refine x_iload4 (pc := 2531) G dl_2531 ?_
  refine x_iconst (pc := 2533) (v := 2) G dl_2533 (by decide) ?_
  refine x_iadd (pc := 2534) G dl_2534 ?_
  refine x_sld (pc := 2535) G hX hbl hbA hx2 dl_2535 ?_
  have hC := kc_sample (k := k) hl hI (p1 := (xs (nI i + 1).toNatClampNeg)) (p2 := (xs (nI i + 2).toNatClampNeg))
  rw [hvr] at hC
  have hst := fun {o : Out} {w : Wd} => so_sample (k := k) (o := o) (w := w) (p1 := (xs (nI i + 1).toNatClampNeg)) (p2 := (xs (nI i + 2).toNatClampNeg)) hI
  have hh := ch_sample hl hbm hbf hC (fun o w hp => by
    obtain ⟨_, _, _, _, _, ⟨ho, _⟩ | ⟨E, he, _, hc⟩⟩ := hst hp
    · exact Or.inl ho
    · exact Or.inr ⟨E, he, hc⟩)
  have hh := MI.frame hh hd1
  have hh := MI.frame hh hd2
  refine x_callSW (pc := 2536) (bc1 := bc1) (bs1 := bs1) (n := 3) (As := [.ref b, .int (xs (nI i + 1).toNatClampNeg), .int (xs (nI i + 2).toNatClampNeg)]) G hh q_ml_L_284 q_st_yL_sample q_in_L q_cw_sample ⟨by decide, by decide, by decide +kernel⟩ ⟨Nat.le_of_ble_eq_true rfl, Nat.le_of_ble_eq_true rfl⟩ (Nat.zero_le _) (Nat.le_refl _) (Nat.le_refl _) rfl rfl dl_2536 (fun v w9 hp => ?_)
  obtain ⟨X2, S2, f2, kc, rfl, hL2, hv, hk, hz⟩ : ∃ X2 S2 f2 kc, w9 = wu (wu (cW k X2 S2) (oW k ao f2)) (mW k mo ad M) ∧ LV9 k b X2 S2 ao f2 mo ad (f_sample (xs (nI i + 1).toNatClampNeg) (xs (nI i + 2).toNatClampNeg) M) ∧ v = some (.int kc) ∧ mI (f_sample (xs (nI i + 1).toNatClampNeg) (xs (nI i + 2).toNatClampNeg) M) 0 = kc ∧ (kc = 0 → True) := by
    obtain ⟨h9, ⟨h8, ⟨w1, rfl, hpp⟩, hd1', rfl⟩, hd2', rfl⟩ := hp
    rcases hpp with ⟨hp1, hv⟩ | ⟨E, hp1, hv⟩
    · obtain ⟨X2, S2, rfl, hI2, hb2, ⟨ho, h0⟩ | ⟨E, he, _, _⟩⟩ := hst hp1
      · exact ⟨X2, S2, _, 0, rfl, ⟨hI2, hb2.trans hb, hd1', hd2'⟩, Sum.inl.inj hv, h0, fun _ => trivial⟩
      · cases he
    · obtain ⟨X2, S2, rfl, hI2, hb2, ⟨ho, h0⟩ | ⟨E2, he, h0, hc⟩⟩ := hst hp1
      · cases ho
      · cases he
        refine ⟨X2, S2, _, _, rfl, ⟨hI2, hb2.trans hb, hd1', hd2'⟩, Sum.inl.inj hv, h0, fun z => ?_⟩
        rcases hc with rfl <;> exact absurd z (by decide)
  subst hv
  obtain ⟨hI2, hb2, hd1', hd2'⟩ := id hL2
  refine x_istore5 (pc := 2539) G dl_2539 (by decide) rfl ?_
  refine x_aload2 (pc := 2541) G dl_2541 ?_
  refine x_aload0 (pc := 2542) G dl_2542 ?_
  refine x_iload4 (pc := 2543) G dl_2543 ?_
  refine x_iconst (pc := 2545) (v := 1) G dl_2545 (by decide) ?_
  refine x_iadd (pc := 2546) G dl_2546 ?_
  refine x_sld (pc := 2547) G hX hbl hbA hx1 dl_2547 ?_
  refine x_aload0 (pc := 2548) G dl_2548 ?_
  refine x_iload4 (pc := 2549) G dl_2549 ?_
  refine x_iconst (pc := 2551) (v := 2) G dl_2551 (by decide) ?_
  refine x_iadd (pc := 2552) G dl_2552 ?_
  refine x_sld (pc := 2553) G hX hbl hbA hx2 dl_2553 ?_
  have hr := rc_sample (k := k) hl hH hI.2.2.2 (p1 := (xs (nI i + 1).toNatClampNeg)) (p2 := (xs (nI i + 2).toNatClampNeg))
  refine Wx_perm hd2' ?_
  refine x_callV (pc := 2554) (bc1 := bc1) (bs1 := bs1) (n := 2) (As := [.int (xs (nI i + 1).toNatClampNeg), .int (xs (nI i + 2).toNatClampNeg)]) G (hr.frame (fun a ha z => hd2' a z ha)) (List.mem_append_left _ mW_mo.1) ((if_pos mW_mo.1).trans mW_mo.2) (show vwCl[12]? = some (_, _, _) from rfl) q_ml_L_286 q_im_yX11_sample q_se_yX11_sample q_in_X11 q_co_yX11_sample ⟨by decide, by decide, by decide +kernel⟩ ⟨Nat.le_of_ble_eq_true rfl, Nat.le_of_ble_eq_true rfl⟩ (Nat.zero_le _) (Nat.le_refl _) (Nat.le_refl _) rfl rfl dl_2554 (fun v w9 hp => ?_) (fun E w9 hp => by obtain ⟨_, hq, _⟩ := hp; cases hq.1)
  obtain ⟨h9, ⟨hv, rfl⟩, _, rfl⟩ := hp
  have hv := Sum.inl.inj hv
  subst hv
  refine Wx_perm (fun a ha z => hd2' a z ha) ?_
  refine x_aload2 (pc := 2557) G dl_2557 ?_
  refine Wx_perm hd2' ?_
  refine x_callV (pc := 2558) (bc1 := bc1) (bs1 := bs1) (n := 0) (As := []) G ((c_thrown (k := k) (M := (f_sample (xs (nI i + 1).toNatClampNeg) (xs (nI i + 2).toNatClampNeg) M)) hl hH).frame (fun a ha z => hd2' a z ha)) (List.mem_append_left _ mW_mo.1) ((if_pos mW_mo.1).trans mW_mo.2) (show vwCl[12]? = some (_, _, _) from rfl) q_ml_L_172 q_im_yX11_thrown q_se_yX11_thrown q_in_X11 q_co_yX11_thrown ⟨by decide, by decide, by decide +kernel⟩ ⟨Nat.le_of_ble_eq_true rfl, Nat.le_of_ble_eq_true rfl⟩ (Nat.zero_le _) (Nat.le_refl _) (Nat.le_refl _) rfl rfl dl_2558 (fun v w9 hp => ?_) (fun E w9 hp => by obtain ⟨_, hq, _⟩ := hp; cases hq.1)
  obtain ⟨h9, ⟨hv, rfl⟩, _, rfl⟩ := hp
  have hv := Sum.inl.inj hv
  subst hv
  refine Wx_perm (fun a ha z => hd2' a z ha) ?_
  refine x_iload5 (pc := 2561) G dl_2561 ?_
  refine x_icmp_eq (pc := 2563) (tgt := 2568) G dl_2563 rfl (fun _ => ?_) (fun z9 => absurd hk z9)
  refine x_goto (pc := 2568) (tgt := 3248) G dl_2568 rfl ?_
  exact Wx_l8 (hend X2 S2 _ f2 hL2)
