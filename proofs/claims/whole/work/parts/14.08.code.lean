/-! ===== the code tables hold: the law ===== -/
theorem dL_law_1905 : decode cL_law 1905 = .ok (.iconst 0, 1) := by decide +kernel
theorem dL_law_1906 : decode cL_law 1906 = .ok (.laload, 1) := by decide +kernel
theorem dL_law_1907 : decode cL_law 1907 = .ok (.iload 7, 2) := by decide +kernel
theorem dL_law_1909 : decode cL_law 1909 = .ok (.i2l, 1) := by decide +kernel
theorem dL_law_1910 : decode cL_law 1910 = .ok (.lcmp, 1) := by decide +kernel
theorem dL_law_1911 : decode cL_law 1911 = .ok (.ifCond .eq 5, 3) := by decide +kernel
theorem dL_law_1914 : decode cL_law 1914 = .ok (.iconst 0, 1) := by decide +kernel
theorem dL_law_1915 : decode cL_law 1915 = .ok (.ireturn, 1) := by decide +kernel
theorem dL_law_1916 : decode cL_law 1916 = .ok (.goto 754, 3) := by decide +kernel
theorem dL_law_1919 : decode cL_law 1919 = .ok (.aload_n 1, 1) := by decide +kernel
theorem dL_law_1920 : decode cL_law 1920 = .ok (.aload_n 0, 1) := by decide +kernel
theorem dL_law_1921 : decode cL_law 1921 = .ok (.iload 5, 2) := by decide +kernel
theorem dL_law_1923 : decode cL_law 1923 = .ok (.iconst 1, 1) := by decide +kernel
theorem dL_law_1924 : decode cL_law 1924 = .ok (.iadd, 1) := by decide +kernel
theorem dL_law_1925 : decode cL_law 1925 = .ok (.iaload, 1) := by decide +kernel
theorem dL_law_1926 : decode cL_law 1926 = .ok (.aload_n 3, 1) := by decide +kernel
theorem dL_law_1927 : decode cL_law 1927 = .ok (.invokestatic 239, 3) := by decide +kernel
theorem dL_law_1930 : decode cL_law 1930 = .ok (.istore 6, 2) := by decide +kernel
theorem dL_law_1932 : decode cL_law 1932 = .ok (.aload_n 2, 1) := by decide +kernel
theorem dL_law_1933 : decode cL_law 1933 = .ok (.aload_n 0, 1) := by decide +kernel
theorem dL_law_1934 : decode cL_law 1934 = .ok (.iload 5, 2) := by decide +kernel
theorem dL_law_1936 : decode cL_law 1936 = .ok (.iconst 1, 1) := by decide +kernel
theorem dL_law_1937 : decode cL_law 1937 = .ok (.iadd, 1) := by decide +kernel
theorem dL_law_1938 : decode cL_law 1938 = .ok (.iaload, 1) := by decide +kernel
theorem dL_law_1939 : decode cL_law 1939 = .ok (.invokevirtual 241, 3) := by decide +kernel
theorem dL_law_1942 : decode cL_law 1942 = .ok (.istore 7, 2) := by decide +kernel
theorem dL_law_1944 : decode cL_law 1944 = .ok (.aload_n 2, 1) := by decide +kernel
theorem dL_law_1945 : decode cL_law 1945 = .ok (.invokevirtual 158, 3) := by decide +kernel
theorem dL_law_1948 : decode cL_law 1948 = .ok (.iload 6, 2) := by decide +kernel
theorem dL_law_1950 : decode cL_law 1950 = .ok (.if_icmp .eq 5, 3) := by decide +kernel
theorem dL_law_1953 : decode cL_law 1953 = .ok (.iconst 0, 1) := by decide +kernel
theorem dL_law_1954 : decode cL_law 1954 = .ok (.ireturn, 1) := by decide +kernel
theorem dL_law_1955 : decode cL_law 1955 = .ok (.iload 6, 2) := by decide +kernel
theorem dL_law_1957 : decode cL_law 1957 = .ok (.ifCond .ne 15, 3) := by decide +kernel
theorem dL_law_1960 : decode cL_law 1960 = .ok (.aload_n 3, 1) := by decide +kernel
theorem dL_law_1961 : decode cL_law 1961 = .ok (.iconst 0, 1) := by decide +kernel
theorem dL_law_1962 : decode cL_law 1962 = .ok (.laload, 1) := by decide +kernel
theorem dL_law_1963 : decode cL_law 1963 = .ok (.iload 7, 2) := by decide +kernel
theorem dL_law_1965 : decode cL_law 1965 = .ok (.i2l, 1) := by decide +kernel
theorem dL_law_1966 : decode cL_law 1966 = .ok (.lcmp, 1) := by decide +kernel
theorem ab_k0_28 (K : ab_Kt) : ∀ q ∈ ab_l0_28 K, ab_OK K ab_mt ab_g0 q.1 q.2 := by
  unfold ab_l0_28
  exact List.forall_mem_cons.mpr ⟨ab_iconst_ok dL_law_1905 (by decide), List.forall_mem_cons.mpr ⟨ab_lald_ok dL_law_1906, List.forall_mem_cons.mpr ⟨ab_iload_ok dL_law_1907, List.forall_mem_cons.mpr ⟨ab_i2l_ok dL_law_1909, List.forall_mem_cons.mpr ⟨ab_lcmp_ok dL_law_1910, List.forall_mem_cons.mpr ⟨ab_if_eq_ok dL_law_1911 (by decide), List.forall_mem_cons.mpr ⟨ab_iconst_ok dL_law_1914 (by decide), List.forall_mem_cons.mpr ⟨ab_zret_ok dL_law_1915 rfl, List.forall_mem_cons.mpr ⟨ab_goto_ok dL_law_1916 (by decide), List.forall_mem_cons.mpr ⟨ab_aload_n_ok dL_law_1919 rfl, List.forall_mem_cons.mpr ⟨ab_aload_n_ok dL_law_1920 rfl, List.forall_mem_cons.mpr ⟨ab_iload_ok dL_law_1921, List.forall_mem_cons.mpr ⟨ab_iconst_ok dL_law_1923 (by decide), List.forall_mem_cons.mpr ⟨ab_iadd_ok dL_law_1924, List.forall_mem_cons.mpr ⟨ab_scr_ok dL_law_1925, List.forall_mem_cons.mpr ⟨ab_aload_n_ok dL_law_1926 rfl, List.forall_mem_cons.mpr ⟨ab_callSX_ok' (G' := ab_g32) dL_law_1927 ab_m32 (by decide) (by decide) (ab_l3 ab_w119 ab_w120 ab_w16) ab_w121 rfl ⟨by decide, by decide, by decide +kernel⟩, List.forall_mem_cons.mpr ⟨ab_istore_ok dL_law_1930, List.forall_mem_cons.mpr ⟨ab_aload_n_ok dL_law_1932 rfl, List.forall_mem_cons.mpr ⟨ab_aload_n_ok dL_law_1933 rfl, List.forall_mem_cons.mpr ⟨ab_iload_ok dL_law_1934, List.forall_mem_cons.mpr ⟨ab_iconst_ok dL_law_1936 (by decide), List.forall_mem_cons.mpr ⟨ab_iadd_ok dL_law_1937, List.forall_mem_cons.mpr ⟨ab_scr_ok dL_law_1938, List.forall_mem_cons.mpr ⟨ab_callV_ok' (G' := ab_g33) (C := RX7) (T := TX7) (N := 19) dL_law_1939 ab_m33 rfl rfl (by decide) (by decide) (ab_l4 ab_w122 ab_w123 ab_w124 ab_w8) ab_w125 rfl ⟨by decide, by decide, by decide +kernel⟩, List.forall_mem_cons.mpr ⟨ab_istore_ok dL_law_1942, List.forall_mem_cons.mpr ⟨ab_aload_n_ok dL_law_1944 rfl, List.forall_mem_cons.mpr ⟨ab_callV_ok' (G' := ab_g5) (C := RX7) (T := TX7) (N := 19) dL_law_1945 ab_m5 rfl rfl (by decide) (by decide) (ab_l4 ab_w22 ab_w23 ab_w24 ab_w8) ab_w25 rfl ⟨by decide, by decide, by decide +kernel⟩, List.forall_mem_cons.mpr ⟨ab_iload_ok dL_law_1948, List.forall_mem_cons.mpr ⟨ab_icmp_eq_ok dL_law_1950 (by decide), List.forall_mem_cons.mpr ⟨ab_iconst_ok dL_law_1953 (by decide), List.forall_mem_cons.mpr ⟨ab_zret_ok dL_law_1954 rfl, List.forall_mem_cons.mpr ⟨ab_iload_ok dL_law_1955, List.forall_mem_cons.mpr ⟨ab_if_ne_ok dL_law_1957 (by decide), List.forall_mem_cons.mpr ⟨ab_aload_n_ok dL_law_1960 rfl, List.forall_mem_cons.mpr ⟨ab_iconst_ok dL_law_1961 (by decide), List.forall_mem_cons.mpr ⟨ab_lald_ok dL_law_1962, List.forall_mem_cons.mpr ⟨ab_iload_ok dL_law_1963, List.forall_mem_cons.mpr ⟨ab_i2l_ok dL_law_1965, List.forall_mem_cons.mpr ⟨ab_lcmp_ok dL_law_1966, fun _ h => absurd h List.not_mem_nil⟩⟩⟩⟩⟩⟩⟩⟩⟩⟩⟩⟩⟩⟩⟩⟩⟩⟩⟩⟩⟩⟩⟩⟩⟩⟩⟩⟩⟩⟩⟩⟩⟩⟩⟩⟩⟩⟩⟩⟩
theorem dL_law_1967 : decode cL_law 1967 = .ok (.ifCond .eq 5, 3) := by decide +kernel
theorem dL_law_1970 : decode cL_law 1970 = .ok (.iconst 0, 1) := by decide +kernel
theorem dL_law_1971 : decode cL_law 1971 = .ok (.ireturn, 1) := by decide +kernel
theorem dL_law_1972 : decode cL_law 1972 = .ok (.goto 698, 3) := by decide +kernel
theorem dL_law_1975 : decode cL_law 1975 = .ok (.aload_n 1, 1) := by decide +kernel
theorem dL_law_1976 : decode cL_law 1976 = .ok (.aload_n 0, 1) := by decide +kernel
theorem dL_law_1977 : decode cL_law 1977 = .ok (.iload 5, 2) := by decide +kernel
theorem dL_law_1979 : decode cL_law 1979 = .ok (.iconst 1, 1) := by decide +kernel
theorem dL_law_1980 : decode cL_law 1980 = .ok (.iadd, 1) := by decide +kernel
theorem dL_law_1981 : decode cL_law 1981 = .ok (.iaload, 1) := by decide +kernel
theorem dL_law_1982 : decode cL_law 1982 = .ok (.aload_n 3, 1) := by decide +kernel
theorem dL_law_1983 : decode cL_law 1983 = .ok (.invokestatic 242, 3) := by decide +kernel
theorem dL_law_1986 : decode cL_law 1986 = .ok (.istore 6, 2) := by decide +kernel
theorem dL_law_1988 : decode cL_law 1988 = .ok (.aload_n 2, 1) := by decide +kernel
theorem dL_law_1989 : decode cL_law 1989 = .ok (.aload_n 0, 1) := by decide +kernel
theorem dL_law_1990 : decode cL_law 1990 = .ok (.iload 5, 2) := by decide +kernel
theorem dL_law_1992 : decode cL_law 1992 = .ok (.iconst 1, 1) := by decide +kernel
theorem dL_law_1993 : decode cL_law 1993 = .ok (.iadd, 1) := by decide +kernel
theorem dL_law_1994 : decode cL_law 1994 = .ok (.iaload, 1) := by decide +kernel
theorem dL_law_1995 : decode cL_law 1995 = .ok (.invokevirtual 244, 3) := by decide +kernel
theorem dL_law_1998 : decode cL_law 1998 = .ok (.istore 7, 2) := by decide +kernel
theorem dL_law_2000 : decode cL_law 2000 = .ok (.aload_n 2, 1) := by decide +kernel
theorem dL_law_2001 : decode cL_law 2001 = .ok (.invokevirtual 158, 3) := by decide +kernel
theorem dL_law_2004 : decode cL_law 2004 = .ok (.iload 6, 2) := by decide +kernel
theorem dL_law_2006 : decode cL_law 2006 = .ok (.if_icmp .eq 5, 3) := by decide +kernel
theorem dL_law_2009 : decode cL_law 2009 = .ok (.iconst 0, 1) := by decide +kernel
theorem dL_law_2010 : decode cL_law 2010 = .ok (.ireturn, 1) := by decide +kernel
theorem dL_law_2011 : decode cL_law 2011 = .ok (.iload 6, 2) := by decide +kernel
theorem dL_law_2013 : decode cL_law 2013 = .ok (.ifCond .ne 15, 3) := by decide +kernel
theorem dL_law_2016 : decode cL_law 2016 = .ok (.aload_n 3, 1) := by decide +kernel
theorem dL_law_2017 : decode cL_law 2017 = .ok (.iconst 0, 1) := by decide +kernel
theorem dL_law_2018 : decode cL_law 2018 = .ok (.laload, 1) := by decide +kernel
theorem dL_law_2019 : decode cL_law 2019 = .ok (.iload 7, 2) := by decide +kernel
theorem dL_law_2021 : decode cL_law 2021 = .ok (.i2l, 1) := by decide +kernel
theorem dL_law_2022 : decode cL_law 2022 = .ok (.lcmp, 1) := by decide +kernel
theorem dL_law_2023 : decode cL_law 2023 = .ok (.ifCond .eq 5, 3) := by decide +kernel
theorem dL_law_2026 : decode cL_law 2026 = .ok (.iconst 0, 1) := by decide +kernel
theorem dL_law_2027 : decode cL_law 2027 = .ok (.ireturn, 1) := by decide +kernel
theorem dL_law_2028 : decode cL_law 2028 = .ok (.goto 642, 3) := by decide +kernel
theorem dL_law_2031 : decode cL_law 2031 = .ok (.aload_n 1, 1) := by decide +kernel
theorem ab_k0_29 (K : ab_Kt) : ∀ q ∈ ab_l0_29 K, ab_OK K ab_mt ab_g0 q.1 q.2 := by
  unfold ab_l0_29
  exact List.forall_mem_cons.mpr ⟨ab_if_eq_ok dL_law_1967 (by decide), List.forall_mem_cons.mpr ⟨ab_iconst_ok dL_law_1970 (by decide), List.forall_mem_cons.mpr ⟨ab_zret_ok dL_law_1971 rfl, List.forall_mem_cons.mpr ⟨ab_goto_ok dL_law_1972 (by decide), List.forall_mem_cons.mpr ⟨ab_aload_n_ok dL_law_1975 rfl, List.forall_mem_cons.mpr ⟨ab_aload_n_ok dL_law_1976 rfl, List.forall_mem_cons.mpr ⟨ab_iload_ok dL_law_1977, List.forall_mem_cons.mpr ⟨ab_iconst_ok dL_law_1979 (by decide), List.forall_mem_cons.mpr ⟨ab_iadd_ok dL_law_1980, List.forall_mem_cons.mpr ⟨ab_scr_ok dL_law_1981, List.forall_mem_cons.mpr ⟨ab_aload_n_ok dL_law_1982 rfl, List.forall_mem_cons.mpr ⟨ab_callSX_ok' (G' := ab_g30) dL_law_1983 ab_m30 (by decide) (by decide) (ab_l3 ab_w112 ab_w113 ab_w16) ab_w114 rfl ⟨by decide, by decide, by decide +kernel⟩, List.forall_mem_cons.mpr ⟨ab_istore_ok dL_law_1986, List.forall_mem_cons.mpr ⟨ab_aload_n_ok dL_law_1988 rfl, List.forall_mem_cons.mpr ⟨ab_aload_n_ok dL_law_1989 rfl, List.forall_mem_cons.mpr ⟨ab_iload_ok dL_law_1990, List.forall_mem_cons.mpr ⟨ab_iconst_ok dL_law_1992 (by decide), List.forall_mem_cons.mpr ⟨ab_iadd_ok dL_law_1993, List.forall_mem_cons.mpr ⟨ab_scr_ok dL_law_1994, List.forall_mem_cons.mpr ⟨ab_callV_ok' (G' := ab_g31) (C := RX7) (T := TX7) (N := 19) dL_law_1995 ab_m31 rfl rfl (by decide) (by decide) (ab_l4 ab_w115 ab_w116 ab_w117 ab_w8) ab_w118 rfl ⟨by decide, by decide, by decide +kernel⟩, List.forall_mem_cons.mpr ⟨ab_istore_ok dL_law_1998, List.forall_mem_cons.mpr ⟨ab_aload_n_ok dL_law_2000 rfl, List.forall_mem_cons.mpr ⟨ab_callV_ok' (G' := ab_g5) (C := RX7) (T := TX7) (N := 19) dL_law_2001 ab_m5 rfl rfl (by decide) (by decide) (ab_l4 ab_w22 ab_w23 ab_w24 ab_w8) ab_w25 rfl ⟨by decide, by decide, by decide +kernel⟩, List.forall_mem_cons.mpr ⟨ab_iload_ok dL_law_2004, List.forall_mem_cons.mpr ⟨ab_icmp_eq_ok dL_law_2006 (by decide), List.forall_mem_cons.mpr ⟨ab_iconst_ok dL_law_2009 (by decide), List.forall_mem_cons.mpr ⟨ab_zret_ok dL_law_2010 rfl, List.forall_mem_cons.mpr ⟨ab_iload_ok dL_law_2011, List.forall_mem_cons.mpr ⟨ab_if_ne_ok dL_law_2013 (by decide), List.forall_mem_cons.mpr ⟨ab_aload_n_ok dL_law_2016 rfl, List.forall_mem_cons.mpr ⟨ab_iconst_ok dL_law_2017 (by decide), List.forall_mem_cons.mpr ⟨ab_lald_ok dL_law_2018, List.forall_mem_cons.mpr ⟨ab_iload_ok dL_law_2019, List.forall_mem_cons.mpr ⟨ab_i2l_ok dL_law_2021, List.forall_mem_cons.mpr ⟨ab_lcmp_ok dL_law_2022, List.forall_mem_cons.mpr ⟨ab_if_eq_ok dL_law_2023 (by decide), List.forall_mem_cons.mpr ⟨ab_iconst_ok dL_law_2026 (by decide), List.forall_mem_cons.mpr ⟨ab_zret_ok dL_law_2027 rfl, List.forall_mem_cons.mpr ⟨ab_goto_ok dL_law_2028 (by decide), List.forall_mem_cons.mpr ⟨ab_aload_n_ok dL_law_2031 rfl, fun _ h => absurd h List.not_mem_nil⟩⟩⟩⟩⟩⟩⟩⟩⟩⟩⟩⟩⟩⟩⟩⟩⟩⟩⟩⟩⟩⟩⟩⟩⟩⟩⟩⟩⟩⟩⟩⟩⟩⟩⟩⟩⟩⟩⟩⟩
theorem dL_law_2032 : decode cL_law 2032 = .ok (.aload_n 0, 1) := by decide +kernel
theorem dL_law_2033 : decode cL_law 2033 = .ok (.iload 5, 2) := by decide +kernel
theorem dL_law_2035 : decode cL_law 2035 = .ok (.iconst 1, 1) := by decide +kernel
theorem dL_law_2036 : decode cL_law 2036 = .ok (.iadd, 1) := by decide +kernel
theorem dL_law_2037 : decode cL_law 2037 = .ok (.iaload, 1) := by decide +kernel
theorem dL_law_2038 : decode cL_law 2038 = .ok (.aload_n 3, 1) := by decide +kernel
theorem dL_law_2039 : decode cL_law 2039 = .ok (.invokestatic 245, 3) := by decide +kernel
theorem dL_law_2042 : decode cL_law 2042 = .ok (.istore 6, 2) := by decide +kernel
theorem dL_law_2044 : decode cL_law 2044 = .ok (.aload_n 2, 1) := by decide +kernel
theorem dL_law_2045 : decode cL_law 2045 = .ok (.aload_n 0, 1) := by decide +kernel
theorem dL_law_2046 : decode cL_law 2046 = .ok (.iload 5, 2) := by decide +kernel
theorem dL_law_2048 : decode cL_law 2048 = .ok (.iconst 1, 1) := by decide +kernel
theorem dL_law_2049 : decode cL_law 2049 = .ok (.iadd, 1) := by decide +kernel
theorem dL_law_2050 : decode cL_law 2050 = .ok (.iaload, 1) := by decide +kernel
theorem dL_law_2051 : decode cL_law 2051 = .ok (.invokevirtual 247, 3) := by decide +kernel
theorem dL_law_2054 : decode cL_law 2054 = .ok (.istore 7, 2) := by decide +kernel
theorem dL_law_2056 : decode cL_law 2056 = .ok (.aload_n 2, 1) := by decide +kernel
theorem dL_law_2057 : decode cL_law 2057 = .ok (.invokevirtual 158, 3) := by decide +kernel
theorem dL_law_2060 : decode cL_law 2060 = .ok (.iload 6, 2) := by decide +kernel
theorem dL_law_2062 : decode cL_law 2062 = .ok (.if_icmp .eq 5, 3) := by decide +kernel
theorem dL_law_2065 : decode cL_law 2065 = .ok (.iconst 0, 1) := by decide +kernel
theorem dL_law_2066 : decode cL_law 2066 = .ok (.ireturn, 1) := by decide +kernel
theorem dL_law_2067 : decode cL_law 2067 = .ok (.iload 6, 2) := by decide +kernel
theorem dL_law_2069 : decode cL_law 2069 = .ok (.ifCond .ne 15, 3) := by decide +kernel
theorem dL_law_2072 : decode cL_law 2072 = .ok (.aload_n 3, 1) := by decide +kernel
theorem dL_law_2073 : decode cL_law 2073 = .ok (.iconst 0, 1) := by decide +kernel
theorem dL_law_2074 : decode cL_law 2074 = .ok (.laload, 1) := by decide +kernel
theorem dL_law_2075 : decode cL_law 2075 = .ok (.iload 7, 2) := by decide +kernel
theorem dL_law_2077 : decode cL_law 2077 = .ok (.i2l, 1) := by decide +kernel
theorem dL_law_2078 : decode cL_law 2078 = .ok (.lcmp, 1) := by decide +kernel
theorem dL_law_2079 : decode cL_law 2079 = .ok (.ifCond .eq 5, 3) := by decide +kernel
theorem dL_law_2082 : decode cL_law 2082 = .ok (.iconst 0, 1) := by decide +kernel
theorem dL_law_2083 : decode cL_law 2083 = .ok (.ireturn, 1) := by decide +kernel
theorem dL_law_2084 : decode cL_law 2084 = .ok (.goto 586, 3) := by decide +kernel
theorem dL_law_2087 : decode cL_law 2087 = .ok (.aload_n 1, 1) := by decide +kernel
theorem dL_law_2088 : decode cL_law 2088 = .ok (.aload_n 0, 1) := by decide +kernel
theorem dL_law_2089 : decode cL_law 2089 = .ok (.iload 5, 2) := by decide +kernel
theorem dL_law_2091 : decode cL_law 2091 = .ok (.iconst 1, 1) := by decide +kernel
theorem dL_law_2092 : decode cL_law 2092 = .ok (.iadd, 1) := by decide +kernel
theorem dL_law_2093 : decode cL_law 2093 = .ok (.iaload, 1) := by decide +kernel
theorem ab_k0_30 (K : ab_Kt) : ∀ q ∈ ab_l0_30 K, ab_OK K ab_mt ab_g0 q.1 q.2 := by
  unfold ab_l0_30
  exact List.forall_mem_cons.mpr ⟨ab_aload_n_ok dL_law_2032 rfl, List.forall_mem_cons.mpr ⟨ab_iload_ok dL_law_2033, List.forall_mem_cons.mpr ⟨ab_iconst_ok dL_law_2035 (by decide), List.forall_mem_cons.mpr ⟨ab_iadd_ok dL_law_2036, List.forall_mem_cons.mpr ⟨ab_scr_ok dL_law_2037, List.forall_mem_cons.mpr ⟨ab_aload_n_ok dL_law_2038 rfl, List.forall_mem_cons.mpr ⟨ab_callSX_ok' (G' := ab_g28) dL_law_2039 ab_m28 (by decide) (by decide) (ab_l3 ab_w105 ab_w106 ab_w16) ab_w107 rfl ⟨by decide, by decide, by decide +kernel⟩, List.forall_mem_cons.mpr ⟨ab_istore_ok dL_law_2042, List.forall_mem_cons.mpr ⟨ab_aload_n_ok dL_law_2044 rfl, List.forall_mem_cons.mpr ⟨ab_aload_n_ok dL_law_2045 rfl, List.forall_mem_cons.mpr ⟨ab_iload_ok dL_law_2046, List.forall_mem_cons.mpr ⟨ab_iconst_ok dL_law_2048 (by decide), List.forall_mem_cons.mpr ⟨ab_iadd_ok dL_law_2049, List.forall_mem_cons.mpr ⟨ab_scr_ok dL_law_2050, List.forall_mem_cons.mpr ⟨ab_callV_ok' (G' := ab_g29) (C := RX7) (T := TX7) (N := 19) dL_law_2051 ab_m29 rfl rfl (by decide) (by decide) (ab_l4 ab_w108 ab_w109 ab_w110 ab_w8) ab_w111 rfl ⟨by decide, by decide, by decide +kernel⟩, List.forall_mem_cons.mpr ⟨ab_istore_ok dL_law_2054, List.forall_mem_cons.mpr ⟨ab_aload_n_ok dL_law_2056 rfl, List.forall_mem_cons.mpr ⟨ab_callV_ok' (G' := ab_g5) (C := RX7) (T := TX7) (N := 19) dL_law_2057 ab_m5 rfl rfl (by decide) (by decide) (ab_l4 ab_w22 ab_w23 ab_w24 ab_w8) ab_w25 rfl ⟨by decide, by decide, by decide +kernel⟩, List.forall_mem_cons.mpr ⟨ab_iload_ok dL_law_2060, List.forall_mem_cons.mpr ⟨ab_icmp_eq_ok dL_law_2062 (by decide), List.forall_mem_cons.mpr ⟨ab_iconst_ok dL_law_2065 (by decide), List.forall_mem_cons.mpr ⟨ab_zret_ok dL_law_2066 rfl, List.forall_mem_cons.mpr ⟨ab_iload_ok dL_law_2067, List.forall_mem_cons.mpr ⟨ab_if_ne_ok dL_law_2069 (by decide), List.forall_mem_cons.mpr ⟨ab_aload_n_ok dL_law_2072 rfl, List.forall_mem_cons.mpr ⟨ab_iconst_ok dL_law_2073 (by decide), List.forall_mem_cons.mpr ⟨ab_lald_ok dL_law_2074, List.forall_mem_cons.mpr ⟨ab_iload_ok dL_law_2075, List.forall_mem_cons.mpr ⟨ab_i2l_ok dL_law_2077, List.forall_mem_cons.mpr ⟨ab_lcmp_ok dL_law_2078, List.forall_mem_cons.mpr ⟨ab_if_eq_ok dL_law_2079 (by decide), List.forall_mem_cons.mpr ⟨ab_iconst_ok dL_law_2082 (by decide), List.forall_mem_cons.mpr ⟨ab_zret_ok dL_law_2083 rfl, List.forall_mem_cons.mpr ⟨ab_goto_ok dL_law_2084 (by decide), List.forall_mem_cons.mpr ⟨ab_aload_n_ok dL_law_2087 rfl, List.forall_mem_cons.mpr ⟨ab_aload_n_ok dL_law_2088 rfl, List.forall_mem_cons.mpr ⟨ab_iload_ok dL_law_2089, List.forall_mem_cons.mpr ⟨ab_iconst_ok dL_law_2091 (by decide), List.forall_mem_cons.mpr ⟨ab_iadd_ok dL_law_2092, List.forall_mem_cons.mpr ⟨ab_scr_ok dL_law_2093, fun _ h => absurd h List.not_mem_nil⟩⟩⟩⟩⟩⟩⟩⟩⟩⟩⟩⟩⟩⟩⟩⟩⟩⟩⟩⟩⟩⟩⟩⟩⟩⟩⟩⟩⟩⟩⟩⟩⟩⟩⟩⟩⟩⟩⟩⟩
theorem dL_law_2094 : decode cL_law 2094 = .ok (.i2c, 1) := by decide +kernel
theorem dL_law_2095 : decode cL_law 2095 = .ok (.aload_n 3, 1) := by decide +kernel
theorem dL_law_2096 : decode cL_law 2096 = .ok (.invokestatic 248, 3) := by decide +kernel
theorem dL_law_2099 : decode cL_law 2099 = .ok (.istore 6, 2) := by decide +kernel
theorem dL_law_2101 : decode cL_law 2101 = .ok (.aload_n 2, 1) := by decide +kernel
theorem dL_law_2102 : decode cL_law 2102 = .ok (.aload_n 0, 1) := by decide +kernel
theorem dL_law_2103 : decode cL_law 2103 = .ok (.iload 5, 2) := by decide +kernel
theorem dL_law_2105 : decode cL_law 2105 = .ok (.iconst 1, 1) := by decide +kernel
theorem dL_law_2106 : decode cL_law 2106 = .ok (.iadd, 1) := by decide +kernel
theorem dL_law_2107 : decode cL_law 2107 = .ok (.iaload, 1) := by decide +kernel
theorem dL_law_2108 : decode cL_law 2108 = .ok (.i2c, 1) := by decide +kernel
theorem dL_law_2109 : decode cL_law 2109 = .ok (.invokevirtual 251, 3) := by decide +kernel
theorem dL_law_2112 : decode cL_law 2112 = .ok (.istore 7, 2) := by decide +kernel
theorem dL_law_2114 : decode cL_law 2114 = .ok (.aload_n 2, 1) := by decide +kernel
theorem dL_law_2115 : decode cL_law 2115 = .ok (.invokevirtual 158, 3) := by decide +kernel
theorem dL_law_2118 : decode cL_law 2118 = .ok (.iload 6, 2) := by decide +kernel
theorem dL_law_2120 : decode cL_law 2120 = .ok (.if_icmp .eq 5, 3) := by decide +kernel
theorem dL_law_2123 : decode cL_law 2123 = .ok (.iconst 0, 1) := by decide +kernel
theorem dL_law_2124 : decode cL_law 2124 = .ok (.ireturn, 1) := by decide +kernel
theorem dL_law_2125 : decode cL_law 2125 = .ok (.iload 6, 2) := by decide +kernel
theorem dL_law_2127 : decode cL_law 2127 = .ok (.ifCond .ne 15, 3) := by decide +kernel
theorem dL_law_2130 : decode cL_law 2130 = .ok (.aload_n 3, 1) := by decide +kernel
theorem dL_law_2131 : decode cL_law 2131 = .ok (.iconst 0, 1) := by decide +kernel
theorem dL_law_2132 : decode cL_law 2132 = .ok (.laload, 1) := by decide +kernel
theorem dL_law_2133 : decode cL_law 2133 = .ok (.iload 7, 2) := by decide +kernel
theorem dL_law_2135 : decode cL_law 2135 = .ok (.i2l, 1) := by decide +kernel
theorem dL_law_2136 : decode cL_law 2136 = .ok (.lcmp, 1) := by decide +kernel
theorem dL_law_2137 : decode cL_law 2137 = .ok (.ifCond .eq 5, 3) := by decide +kernel
theorem dL_law_2140 : decode cL_law 2140 = .ok (.iconst 0, 1) := by decide +kernel
theorem dL_law_2141 : decode cL_law 2141 = .ok (.ireturn, 1) := by decide +kernel
theorem dL_law_2142 : decode cL_law 2142 = .ok (.goto 528, 3) := by decide +kernel
theorem dL_law_2145 : decode cL_law 2145 = .ok (.aload_n 1, 1) := by decide +kernel
theorem dL_law_2146 : decode cL_law 2146 = .ok (.aload_n 3, 1) := by decide +kernel
theorem dL_law_2147 : decode cL_law 2147 = .ok (.invokestatic 252, 3) := by decide +kernel
theorem dL_law_2150 : decode cL_law 2150 = .ok (.istore 6, 2) := by decide +kernel
theorem dL_law_2152 : decode cL_law 2152 = .ok (.aload_n 2, 1) := by decide +kernel
theorem dL_law_2153 : decode cL_law 2153 = .ok (.invokevirtual 255, 3) := by decide +kernel
theorem dL_law_2156 : decode cL_law 2156 = .ok (.istore 7, 2) := by decide +kernel
theorem dL_law_2158 : decode cL_law 2158 = .ok (.aload_n 2, 1) := by decide +kernel
theorem dL_law_2159 : decode cL_law 2159 = .ok (.invokevirtual 158, 3) := by decide +kernel
theorem ab_k0_31 (K : ab_Kt) : ∀ q ∈ ab_l0_31 K, ab_OK K ab_mt ab_g0 q.1 q.2 := by
  unfold ab_l0_31
  exact List.forall_mem_cons.mpr ⟨ab_i2c_ok dL_law_2094, List.forall_mem_cons.mpr ⟨ab_aload_n_ok dL_law_2095 rfl, List.forall_mem_cons.mpr ⟨ab_callSX_ok' (G' := ab_g26) dL_law_2096 ab_m26 (by decide) (by decide) (ab_l3 ab_w98 ab_w99 ab_w16) ab_w100 rfl ⟨by decide, by decide, by decide +kernel⟩, List.forall_mem_cons.mpr ⟨ab_istore_ok dL_law_2099, List.forall_mem_cons.mpr ⟨ab_aload_n_ok dL_law_2101 rfl, List.forall_mem_cons.mpr ⟨ab_aload_n_ok dL_law_2102 rfl, List.forall_mem_cons.mpr ⟨ab_iload_ok dL_law_2103, List.forall_mem_cons.mpr ⟨ab_iconst_ok dL_law_2105 (by decide), List.forall_mem_cons.mpr ⟨ab_iadd_ok dL_law_2106, List.forall_mem_cons.mpr ⟨ab_scr_ok dL_law_2107, List.forall_mem_cons.mpr ⟨ab_i2c_ok dL_law_2108, List.forall_mem_cons.mpr ⟨ab_callV_ok' (G' := ab_g27) (C := RX7) (T := TX7) (N := 19) dL_law_2109 ab_m27 rfl rfl (by decide) (by decide) (ab_l4 ab_w101 ab_w102 ab_w103 ab_w8) ab_w104 rfl ⟨by decide, by decide, by decide +kernel⟩, List.forall_mem_cons.mpr ⟨ab_istore_ok dL_law_2112, List.forall_mem_cons.mpr ⟨ab_aload_n_ok dL_law_2114 rfl, List.forall_mem_cons.mpr ⟨ab_callV_ok' (G' := ab_g5) (C := RX7) (T := TX7) (N := 19) dL_law_2115 ab_m5 rfl rfl (by decide) (by decide) (ab_l4 ab_w22 ab_w23 ab_w24 ab_w8) ab_w25 rfl ⟨by decide, by decide, by decide +kernel⟩, List.forall_mem_cons.mpr ⟨ab_iload_ok dL_law_2118, List.forall_mem_cons.mpr ⟨ab_icmp_eq_ok dL_law_2120 (by decide), List.forall_mem_cons.mpr ⟨ab_iconst_ok dL_law_2123 (by decide), List.forall_mem_cons.mpr ⟨ab_zret_ok dL_law_2124 rfl, List.forall_mem_cons.mpr ⟨ab_iload_ok dL_law_2125, List.forall_mem_cons.mpr ⟨ab_if_ne_ok dL_law_2127 (by decide), List.forall_mem_cons.mpr ⟨ab_aload_n_ok dL_law_2130 rfl, List.forall_mem_cons.mpr ⟨ab_iconst_ok dL_law_2131 (by decide), List.forall_mem_cons.mpr ⟨ab_lald_ok dL_law_2132, List.forall_mem_cons.mpr ⟨ab_iload_ok dL_law_2133, List.forall_mem_cons.mpr ⟨ab_i2l_ok dL_law_2135, List.forall_mem_cons.mpr ⟨ab_lcmp_ok dL_law_2136, List.forall_mem_cons.mpr ⟨ab_if_eq_ok dL_law_2137 (by decide), List.forall_mem_cons.mpr ⟨ab_iconst_ok dL_law_2140 (by decide), List.forall_mem_cons.mpr ⟨ab_zret_ok dL_law_2141 rfl, List.forall_mem_cons.mpr ⟨ab_goto_ok dL_law_2142 (by decide), List.forall_mem_cons.mpr ⟨ab_aload_n_ok dL_law_2145 rfl, List.forall_mem_cons.mpr ⟨ab_aload_n_ok dL_law_2146 rfl, List.forall_mem_cons.mpr ⟨ab_callSX_ok' (G' := ab_g24) dL_law_2147 ab_m24 (by decide) (by decide) (ab_l3 ab_w91 ab_w92 ab_w16) ab_w93 rfl ⟨by decide, by decide, by decide +kernel⟩, List.forall_mem_cons.mpr ⟨ab_istore_ok dL_law_2150, List.forall_mem_cons.mpr ⟨ab_aload_n_ok dL_law_2152 rfl, List.forall_mem_cons.mpr ⟨ab_callV_ok' (G' := ab_g25) (C := RX7) (T := TX7) (N := 19) dL_law_2153 ab_m25 rfl rfl (by decide) (by decide) (ab_l4 ab_w94 ab_w95 ab_w96 ab_w8) ab_w97 rfl ⟨by decide, by decide, by decide +kernel⟩, List.forall_mem_cons.mpr ⟨ab_istore_ok dL_law_2156, List.forall_mem_cons.mpr ⟨ab_aload_n_ok dL_law_2158 rfl, List.forall_mem_cons.mpr ⟨ab_callV_ok' (G' := ab_g5) (C := RX7) (T := TX7) (N := 19) dL_law_2159 ab_m5 rfl rfl (by decide) (by decide) (ab_l4 ab_w22 ab_w23 ab_w24 ab_w8) ab_w25 rfl ⟨by decide, by decide, by decide +kernel⟩, fun _ h => absurd h List.not_mem_nil⟩⟩⟩⟩⟩⟩⟩⟩⟩⟩⟩⟩⟩⟩⟩⟩⟩⟩⟩⟩⟩⟩⟩⟩⟩⟩⟩⟩⟩⟩⟩⟩⟩⟩⟩⟩⟩⟩⟩⟩
theorem dL_law_2162 : decode cL_law 2162 = .ok (.iload 6, 2) := by decide +kernel
theorem dL_law_2164 : decode cL_law 2164 = .ok (.if_icmp .eq 5, 3) := by decide +kernel
theorem dL_law_2167 : decode cL_law 2167 = .ok (.iconst 0, 1) := by decide +kernel
theorem dL_law_2168 : decode cL_law 2168 = .ok (.ireturn, 1) := by decide +kernel
theorem dL_law_2169 : decode cL_law 2169 = .ok (.iload 6, 2) := by decide +kernel
theorem dL_law_2171 : decode cL_law 2171 = .ok (.ifCond .ne 15, 3) := by decide +kernel
theorem dL_law_2174 : decode cL_law 2174 = .ok (.aload_n 3, 1) := by decide +kernel
theorem dL_law_2175 : decode cL_law 2175 = .ok (.iconst 0, 1) := by decide +kernel
theorem dL_law_2176 : decode cL_law 2176 = .ok (.laload, 1) := by decide +kernel
theorem dL_law_2177 : decode cL_law 2177 = .ok (.iload 7, 2) := by decide +kernel
theorem dL_law_2179 : decode cL_law 2179 = .ok (.i2l, 1) := by decide +kernel
theorem dL_law_2180 : decode cL_law 2180 = .ok (.lcmp, 1) := by decide +kernel
theorem dL_law_2181 : decode cL_law 2181 = .ok (.ifCond .eq 5, 3) := by decide +kernel
theorem dL_law_2184 : decode cL_law 2184 = .ok (.iconst 0, 1) := by decide +kernel
theorem dL_law_2185 : decode cL_law 2185 = .ok (.ireturn, 1) := by decide +kernel
theorem dL_law_2186 : decode cL_law 2186 = .ok (.goto 484, 3) := by decide +kernel
theorem dL_law_2189 : decode cL_law 2189 = .ok (.aload_n 1, 1) := by decide +kernel
theorem dL_law_2190 : decode cL_law 2190 = .ok (.invokevirtual 256, 3) := by decide +kernel
theorem dL_law_2193 : decode cL_law 2193 = .ok (.aload_n 2, 1) := by decide +kernel
theorem dL_law_2194 : decode cL_law 2194 = .ok (.invokevirtual 259, 3) := by decide +kernel
theorem dL_law_2197 : decode cL_law 2197 = .ok (.if_icmp .eq 473, 3) := by decide +kernel
theorem dL_law_2200 : decode cL_law 2200 = .ok (.iconst 0, 1) := by decide +kernel
theorem dL_law_2201 : decode cL_law 2201 = .ok (.ireturn, 1) := by decide +kernel
theorem dL_law_2202 : decode cL_law 2202 = .ok (.aload_n 1, 1) := by decide +kernel
theorem dL_law_2203 : decode cL_law 2203 = .ok (.aload_n 0, 1) := by decide +kernel
theorem dL_law_2204 : decode cL_law 2204 = .ok (.iload 5, 2) := by decide +kernel
theorem dL_law_2206 : decode cL_law 2206 = .ok (.iconst 1, 1) := by decide +kernel
theorem dL_law_2207 : decode cL_law 2207 = .ok (.iadd, 1) := by decide +kernel
theorem dL_law_2208 : decode cL_law 2208 = .ok (.iaload, 1) := by decide +kernel
theorem dL_law_2209 : decode cL_law 2209 = .ok (.aload_n 3, 1) := by decide +kernel
theorem dL_law_2210 : decode cL_law 2210 = .ok (.invokestatic 260, 3) := by decide +kernel
theorem dL_law_2213 : decode cL_law 2213 = .ok (.istore 6, 2) := by decide +kernel
theorem dL_law_2215 : decode cL_law 2215 = .ok (.aload_n 2, 1) := by decide +kernel
theorem dL_law_2216 : decode cL_law 2216 = .ok (.aload_n 0, 1) := by decide +kernel
theorem dL_law_2217 : decode cL_law 2217 = .ok (.iload 5, 2) := by decide +kernel
theorem dL_law_2219 : decode cL_law 2219 = .ok (.iconst 1, 1) := by decide +kernel
theorem dL_law_2220 : decode cL_law 2220 = .ok (.iadd, 1) := by decide +kernel
theorem dL_law_2221 : decode cL_law 2221 = .ok (.iaload, 1) := by decide +kernel
theorem dL_law_2222 : decode cL_law 2222 = .ok (.invokevirtual 262, 3) := by decide +kernel
theorem dL_law_2225 : decode cL_law 2225 = .ok (.istore 7, 2) := by decide +kernel
theorem ab_k0_32 (K : ab_Kt) : ∀ q ∈ ab_l0_32 K, ab_OK K ab_mt ab_g0 q.1 q.2 := by
  unfold ab_l0_32
  exact List.forall_mem_cons.mpr ⟨ab_iload_ok dL_law_2162, List.forall_mem_cons.mpr ⟨ab_icmp_eq_ok dL_law_2164 (by decide), List.forall_mem_cons.mpr ⟨ab_iconst_ok dL_law_2167 (by decide), List.forall_mem_cons.mpr ⟨ab_zret_ok dL_law_2168 rfl, List.forall_mem_cons.mpr ⟨ab_iload_ok dL_law_2169, List.forall_mem_cons.mpr ⟨ab_if_ne_ok dL_law_2171 (by decide), List.forall_mem_cons.mpr ⟨ab_aload_n_ok dL_law_2174 rfl, List.forall_mem_cons.mpr ⟨ab_iconst_ok dL_law_2175 (by decide), List.forall_mem_cons.mpr ⟨ab_lald_ok dL_law_2176, List.forall_mem_cons.mpr ⟨ab_iload_ok dL_law_2177, List.forall_mem_cons.mpr ⟨ab_i2l_ok dL_law_2179, List.forall_mem_cons.mpr ⟨ab_lcmp_ok dL_law_2180, List.forall_mem_cons.mpr ⟨ab_if_eq_ok dL_law_2181 (by decide), List.forall_mem_cons.mpr ⟨ab_iconst_ok dL_law_2184 (by decide), List.forall_mem_cons.mpr ⟨ab_zret_ok dL_law_2185 rfl, List.forall_mem_cons.mpr ⟨ab_goto_ok dL_law_2186 (by decide), List.forall_mem_cons.mpr ⟨ab_aload_n_ok dL_law_2189 rfl, List.forall_mem_cons.mpr ⟨ab_callV_ok' (G' := ab_g22) (C := RX6) (T := TX6) (N := 9) dL_law_2190 ab_m22 rfl rfl (by decide) (by decide) (ab_l4 ab_w83 ab_w84 ab_w85 ab_w2) ab_w86 rfl ⟨by decide, by decide, by decide +kernel⟩, List.forall_mem_cons.mpr ⟨ab_aload_n_ok dL_law_2193 rfl, List.forall_mem_cons.mpr ⟨ab_callV_ok' (G' := ab_g23) (C := RX7) (T := TX7) (N := 19) dL_law_2194 ab_m23 rfl rfl (by decide) (by decide) (ab_l4 ab_w87 ab_w88 ab_w89 ab_w8) ab_w90 rfl ⟨by decide, by decide, by decide +kernel⟩, List.forall_mem_cons.mpr ⟨ab_icmp_eq_ok dL_law_2197 (by decide), List.forall_mem_cons.mpr ⟨ab_iconst_ok dL_law_2200 (by decide), List.forall_mem_cons.mpr ⟨ab_zret_ok dL_law_2201 rfl, List.forall_mem_cons.mpr ⟨ab_aload_n_ok dL_law_2202 rfl, List.forall_mem_cons.mpr ⟨ab_aload_n_ok dL_law_2203 rfl, List.forall_mem_cons.mpr ⟨ab_iload_ok dL_law_2204, List.forall_mem_cons.mpr ⟨ab_iconst_ok dL_law_2206 (by decide), List.forall_mem_cons.mpr ⟨ab_iadd_ok dL_law_2207, List.forall_mem_cons.mpr ⟨ab_scr_ok dL_law_2208, List.forall_mem_cons.mpr ⟨ab_aload_n_ok dL_law_2209 rfl, List.forall_mem_cons.mpr ⟨ab_callSX_ok' (G' := ab_g20) dL_law_2210 ab_m20 (by decide) (by decide) (ab_l3 ab_w76 ab_w77 ab_w16) ab_w78 rfl ⟨by decide, by decide, by decide +kernel⟩, List.forall_mem_cons.mpr ⟨ab_istore_ok dL_law_2213, List.forall_mem_cons.mpr ⟨ab_aload_n_ok dL_law_2215 rfl, List.forall_mem_cons.mpr ⟨ab_aload_n_ok dL_law_2216 rfl, List.forall_mem_cons.mpr ⟨ab_iload_ok dL_law_2217, List.forall_mem_cons.mpr ⟨ab_iconst_ok dL_law_2219 (by decide), List.forall_mem_cons.mpr ⟨ab_iadd_ok dL_law_2220, List.forall_mem_cons.mpr ⟨ab_scr_ok dL_law_2221, List.forall_mem_cons.mpr ⟨ab_callV_ok' (G' := ab_g21) (C := RX7) (T := TX7) (N := 19) dL_law_2222 ab_m21 rfl rfl (by decide) (by decide) (ab_l4 ab_w79 ab_w80 ab_w81 ab_w8) ab_w82 rfl ⟨by decide, by decide, by decide +kernel⟩, List.forall_mem_cons.mpr ⟨ab_istore_ok dL_law_2225, fun _ h => absurd h List.not_mem_nil⟩⟩⟩⟩⟩⟩⟩⟩⟩⟩⟩⟩⟩⟩⟩⟩⟩⟩⟩⟩⟩⟩⟩⟩⟩⟩⟩⟩⟩⟩⟩⟩⟩⟩⟩⟩⟩⟩⟩⟩
theorem dL_law_2227 : decode cL_law 2227 = .ok (.aload_n 2, 1) := by decide +kernel
theorem dL_law_2228 : decode cL_law 2228 = .ok (.invokevirtual 158, 3) := by decide +kernel
theorem dL_law_2231 : decode cL_law 2231 = .ok (.iload 6, 2) := by decide +kernel
theorem dL_law_2233 : decode cL_law 2233 = .ok (.if_icmp .eq 5, 3) := by decide +kernel
theorem dL_law_2236 : decode cL_law 2236 = .ok (.iconst 0, 1) := by decide +kernel
theorem dL_law_2237 : decode cL_law 2237 = .ok (.ireturn, 1) := by decide +kernel
theorem dL_law_2238 : decode cL_law 2238 = .ok (.iload 6, 2) := by decide +kernel
theorem dL_law_2240 : decode cL_law 2240 = .ok (.ifCond .ne 15, 3) := by decide +kernel
theorem dL_law_2243 : decode cL_law 2243 = .ok (.aload_n 3, 1) := by decide +kernel
theorem dL_law_2244 : decode cL_law 2244 = .ok (.iconst 0, 1) := by decide +kernel
theorem dL_law_2245 : decode cL_law 2245 = .ok (.laload, 1) := by decide +kernel
theorem dL_law_2246 : decode cL_law 2246 = .ok (.iload 7, 2) := by decide +kernel
theorem dL_law_2248 : decode cL_law 2248 = .ok (.i2l, 1) := by decide +kernel
theorem dL_law_2249 : decode cL_law 2249 = .ok (.lcmp, 1) := by decide +kernel
theorem dL_law_2250 : decode cL_law 2250 = .ok (.ifCond .eq 5, 3) := by decide +kernel
theorem dL_law_2253 : decode cL_law 2253 = .ok (.iconst 0, 1) := by decide +kernel
theorem dL_law_2254 : decode cL_law 2254 = .ok (.ireturn, 1) := by decide +kernel
theorem dL_law_2255 : decode cL_law 2255 = .ok (.goto 415, 3) := by decide +kernel
theorem dL_law_2258 : decode cL_law 2258 = .ok (.aload_n 1, 1) := by decide +kernel
theorem dL_law_2259 : decode cL_law 2259 = .ok (.aload_n 0, 1) := by decide +kernel
theorem dL_law_2260 : decode cL_law 2260 = .ok (.iload 5, 2) := by decide +kernel
theorem dL_law_2262 : decode cL_law 2262 = .ok (.iconst 1, 1) := by decide +kernel
theorem dL_law_2263 : decode cL_law 2263 = .ok (.iadd, 1) := by decide +kernel
theorem dL_law_2264 : decode cL_law 2264 = .ok (.iaload, 1) := by decide +kernel
theorem dL_law_2265 : decode cL_law 2265 = .ok (.aload_n 3, 1) := by decide +kernel
theorem dL_law_2266 : decode cL_law 2266 = .ok (.invokestatic 263, 3) := by decide +kernel
theorem dL_law_2269 : decode cL_law 2269 = .ok (.istore 6, 2) := by decide +kernel
theorem dL_law_2271 : decode cL_law 2271 = .ok (.aload_n 2, 1) := by decide +kernel
theorem dL_law_2272 : decode cL_law 2272 = .ok (.aload_n 0, 1) := by decide +kernel
theorem dL_law_2273 : decode cL_law 2273 = .ok (.iload 5, 2) := by decide +kernel
theorem dL_law_2275 : decode cL_law 2275 = .ok (.iconst 1, 1) := by decide +kernel
theorem dL_law_2276 : decode cL_law 2276 = .ok (.iadd, 1) := by decide +kernel
theorem dL_law_2277 : decode cL_law 2277 = .ok (.iaload, 1) := by decide +kernel
theorem dL_law_2278 : decode cL_law 2278 = .ok (.invokevirtual 265, 3) := by decide +kernel
theorem dL_law_2281 : decode cL_law 2281 = .ok (.istore 7, 2) := by decide +kernel
theorem dL_law_2283 : decode cL_law 2283 = .ok (.aload_n 2, 1) := by decide +kernel
theorem dL_law_2284 : decode cL_law 2284 = .ok (.invokevirtual 158, 3) := by decide +kernel
theorem dL_law_2287 : decode cL_law 2287 = .ok (.iload 6, 2) := by decide +kernel
theorem dL_law_2289 : decode cL_law 2289 = .ok (.if_icmp .eq 5, 3) := by decide +kernel
theorem dL_law_2292 : decode cL_law 2292 = .ok (.iconst 0, 1) := by decide +kernel
theorem ab_k0_33 (K : ab_Kt) : ∀ q ∈ ab_l0_33 K, ab_OK K ab_mt ab_g0 q.1 q.2 := by
  unfold ab_l0_33
  exact List.forall_mem_cons.mpr ⟨ab_aload_n_ok dL_law_2227 rfl, List.forall_mem_cons.mpr ⟨ab_callV_ok' (G' := ab_g5) (C := RX7) (T := TX7) (N := 19) dL_law_2228 ab_m5 rfl rfl (by decide) (by decide) (ab_l4 ab_w22 ab_w23 ab_w24 ab_w8) ab_w25 rfl ⟨by decide, by decide, by decide +kernel⟩, List.forall_mem_cons.mpr ⟨ab_iload_ok dL_law_2231, List.forall_mem_cons.mpr ⟨ab_icmp_eq_ok dL_law_2233 (by decide), List.forall_mem_cons.mpr ⟨ab_iconst_ok dL_law_2236 (by decide), List.forall_mem_cons.mpr ⟨ab_zret_ok dL_law_2237 rfl, List.forall_mem_cons.mpr ⟨ab_iload_ok dL_law_2238, List.forall_mem_cons.mpr ⟨ab_if_ne_ok dL_law_2240 (by decide), List.forall_mem_cons.mpr ⟨ab_aload_n_ok dL_law_2243 rfl, List.forall_mem_cons.mpr ⟨ab_iconst_ok dL_law_2244 (by decide), List.forall_mem_cons.mpr ⟨ab_lald_ok dL_law_2245, List.forall_mem_cons.mpr ⟨ab_iload_ok dL_law_2246, List.forall_mem_cons.mpr ⟨ab_i2l_ok dL_law_2248, List.forall_mem_cons.mpr ⟨ab_lcmp_ok dL_law_2249, List.forall_mem_cons.mpr ⟨ab_if_eq_ok dL_law_2250 (by decide), List.forall_mem_cons.mpr ⟨ab_iconst_ok dL_law_2253 (by decide), List.forall_mem_cons.mpr ⟨ab_zret_ok dL_law_2254 rfl, List.forall_mem_cons.mpr ⟨ab_goto_ok dL_law_2255 (by decide), List.forall_mem_cons.mpr ⟨ab_aload_n_ok dL_law_2258 rfl, List.forall_mem_cons.mpr ⟨ab_aload_n_ok dL_law_2259 rfl, List.forall_mem_cons.mpr ⟨ab_iload_ok dL_law_2260, List.forall_mem_cons.mpr ⟨ab_iconst_ok dL_law_2262 (by decide), List.forall_mem_cons.mpr ⟨ab_iadd_ok dL_law_2263, List.forall_mem_cons.mpr ⟨ab_scr_ok dL_law_2264, List.forall_mem_cons.mpr ⟨ab_aload_n_ok dL_law_2265 rfl, List.forall_mem_cons.mpr ⟨ab_callSX_ok' (G' := ab_g18) dL_law_2266 ab_m18 (by decide) (by decide) (ab_l3 ab_w69 ab_w70 ab_w16) ab_w71 rfl ⟨by decide, by decide, by decide +kernel⟩, List.forall_mem_cons.mpr ⟨ab_istore_ok dL_law_2269, List.forall_mem_cons.mpr ⟨ab_aload_n_ok dL_law_2271 rfl, List.forall_mem_cons.mpr ⟨ab_aload_n_ok dL_law_2272 rfl, List.forall_mem_cons.mpr ⟨ab_iload_ok dL_law_2273, List.forall_mem_cons.mpr ⟨ab_iconst_ok dL_law_2275 (by decide), List.forall_mem_cons.mpr ⟨ab_iadd_ok dL_law_2276, List.forall_mem_cons.mpr ⟨ab_scr_ok dL_law_2277, List.forall_mem_cons.mpr ⟨ab_callV_ok' (G' := ab_g19) (C := RX7) (T := TX7) (N := 19) dL_law_2278 ab_m19 rfl rfl (by decide) (by decide) (ab_l4 ab_w72 ab_w73 ab_w74 ab_w8) ab_w75 rfl ⟨by decide, by decide, by decide +kernel⟩, List.forall_mem_cons.mpr ⟨ab_istore_ok dL_law_2281, List.forall_mem_cons.mpr ⟨ab_aload_n_ok dL_law_2283 rfl, List.forall_mem_cons.mpr ⟨ab_callV_ok' (G' := ab_g5) (C := RX7) (T := TX7) (N := 19) dL_law_2284 ab_m5 rfl rfl (by decide) (by decide) (ab_l4 ab_w22 ab_w23 ab_w24 ab_w8) ab_w25 rfl ⟨by decide, by decide, by decide +kernel⟩, List.forall_mem_cons.mpr ⟨ab_iload_ok dL_law_2287, List.forall_mem_cons.mpr ⟨ab_icmp_eq_ok dL_law_2289 (by decide), List.forall_mem_cons.mpr ⟨ab_iconst_ok dL_law_2292 (by decide), fun _ h => absurd h List.not_mem_nil⟩⟩⟩⟩⟩⟩⟩⟩⟩⟩⟩⟩⟩⟩⟩⟩⟩⟩⟩⟩⟩⟩⟩⟩⟩⟩⟩⟩⟩⟩⟩⟩⟩⟩⟩⟩⟩⟩⟩⟩
theorem dL_law_2293 : decode cL_law 2293 = .ok (.ireturn, 1) := by decide +kernel
theorem dL_law_2294 : decode cL_law 2294 = .ok (.iload 6, 2) := by decide +kernel
theorem dL_law_2296 : decode cL_law 2296 = .ok (.ifCond .ne 15, 3) := by decide +kernel
theorem dL_law_2299 : decode cL_law 2299 = .ok (.aload_n 3, 1) := by decide +kernel
theorem dL_law_2300 : decode cL_law 2300 = .ok (.iconst 0, 1) := by decide +kernel
theorem dL_law_2301 : decode cL_law 2301 = .ok (.laload, 1) := by decide +kernel
theorem dL_law_2302 : decode cL_law 2302 = .ok (.iload 7, 2) := by decide +kernel
theorem dL_law_2304 : decode cL_law 2304 = .ok (.i2l, 1) := by decide +kernel
theorem dL_law_2305 : decode cL_law 2305 = .ok (.lcmp, 1) := by decide +kernel
theorem dL_law_2306 : decode cL_law 2306 = .ok (.ifCond .eq 5, 3) := by decide +kernel
theorem dL_law_2309 : decode cL_law 2309 = .ok (.iconst 0, 1) := by decide +kernel
theorem dL_law_2310 : decode cL_law 2310 = .ok (.ireturn, 1) := by decide +kernel
theorem dL_law_2311 : decode cL_law 2311 = .ok (.goto 359, 3) := by decide +kernel
theorem dL_law_2314 : decode cL_law 2314 = .ok (.aload_n 1, 1) := by decide +kernel
theorem dL_law_2315 : decode cL_law 2315 = .ok (.aload_n 0, 1) := by decide +kernel
theorem dL_law_2316 : decode cL_law 2316 = .ok (.iload 5, 2) := by decide +kernel
theorem dL_law_2318 : decode cL_law 2318 = .ok (.iconst 1, 1) := by decide +kernel
theorem dL_law_2319 : decode cL_law 2319 = .ok (.iadd, 1) := by decide +kernel
theorem dL_law_2320 : decode cL_law 2320 = .ok (.iaload, 1) := by decide +kernel
theorem dL_law_2321 : decode cL_law 2321 = .ok (.aload_n 3, 1) := by decide +kernel
theorem dL_law_2322 : decode cL_law 2322 = .ok (.invokestatic 266, 3) := by decide +kernel
theorem dL_law_2325 : decode cL_law 2325 = .ok (.istore 6, 2) := by decide +kernel
theorem dL_law_2327 : decode cL_law 2327 = .ok (.aload_n 2, 1) := by decide +kernel
theorem dL_law_2328 : decode cL_law 2328 = .ok (.aload_n 0, 1) := by decide +kernel
theorem dL_law_2329 : decode cL_law 2329 = .ok (.iload 5, 2) := by decide +kernel
theorem dL_law_2331 : decode cL_law 2331 = .ok (.iconst 1, 1) := by decide +kernel
theorem dL_law_2332 : decode cL_law 2332 = .ok (.iadd, 1) := by decide +kernel
theorem dL_law_2333 : decode cL_law 2333 = .ok (.iaload, 1) := by decide +kernel
theorem dL_law_2334 : decode cL_law 2334 = .ok (.invokevirtual 268, 3) := by decide +kernel
theorem dL_law_2337 : decode cL_law 2337 = .ok (.istore 7, 2) := by decide +kernel
theorem dL_law_2339 : decode cL_law 2339 = .ok (.aload_n 2, 1) := by decide +kernel
theorem dL_law_2340 : decode cL_law 2340 = .ok (.invokevirtual 158, 3) := by decide +kernel
theorem dL_law_2343 : decode cL_law 2343 = .ok (.iload 6, 2) := by decide +kernel
theorem dL_law_2345 : decode cL_law 2345 = .ok (.if_icmp .eq 5, 3) := by decide +kernel
theorem dL_law_2348 : decode cL_law 2348 = .ok (.iconst 0, 1) := by decide +kernel
theorem dL_law_2349 : decode cL_law 2349 = .ok (.ireturn, 1) := by decide +kernel
theorem dL_law_2350 : decode cL_law 2350 = .ok (.iload 6, 2) := by decide +kernel
theorem dL_law_2352 : decode cL_law 2352 = .ok (.ifCond .ne 15, 3) := by decide +kernel
theorem dL_law_2355 : decode cL_law 2355 = .ok (.aload_n 3, 1) := by decide +kernel
theorem dL_law_2356 : decode cL_law 2356 = .ok (.iconst 0, 1) := by decide +kernel
theorem ab_k0_34 (K : ab_Kt) : ∀ q ∈ ab_l0_34 K, ab_OK K ab_mt ab_g0 q.1 q.2 := by
  unfold ab_l0_34
  exact List.forall_mem_cons.mpr ⟨ab_zret_ok dL_law_2293 rfl, List.forall_mem_cons.mpr ⟨ab_iload_ok dL_law_2294, List.forall_mem_cons.mpr ⟨ab_if_ne_ok dL_law_2296 (by decide), List.forall_mem_cons.mpr ⟨ab_aload_n_ok dL_law_2299 rfl, List.forall_mem_cons.mpr ⟨ab_iconst_ok dL_law_2300 (by decide), List.forall_mem_cons.mpr ⟨ab_lald_ok dL_law_2301, List.forall_mem_cons.mpr ⟨ab_iload_ok dL_law_2302, List.forall_mem_cons.mpr ⟨ab_i2l_ok dL_law_2304, List.forall_mem_cons.mpr ⟨ab_lcmp_ok dL_law_2305, List.forall_mem_cons.mpr ⟨ab_if_eq_ok dL_law_2306 (by decide), List.forall_mem_cons.mpr ⟨ab_iconst_ok dL_law_2309 (by decide), List.forall_mem_cons.mpr ⟨ab_zret_ok dL_law_2310 rfl, List.forall_mem_cons.mpr ⟨ab_goto_ok dL_law_2311 (by decide), List.forall_mem_cons.mpr ⟨ab_aload_n_ok dL_law_2314 rfl, List.forall_mem_cons.mpr ⟨ab_aload_n_ok dL_law_2315 rfl, List.forall_mem_cons.mpr ⟨ab_iload_ok dL_law_2316, List.forall_mem_cons.mpr ⟨ab_iconst_ok dL_law_2318 (by decide), List.forall_mem_cons.mpr ⟨ab_iadd_ok dL_law_2319, List.forall_mem_cons.mpr ⟨ab_scr_ok dL_law_2320, List.forall_mem_cons.mpr ⟨ab_aload_n_ok dL_law_2321 rfl, List.forall_mem_cons.mpr ⟨ab_callSX_ok' (G' := ab_g16) dL_law_2322 ab_m16 (by decide) (by decide) (ab_l3 ab_w62 ab_w63 ab_w16) ab_w64 rfl ⟨by decide, by decide, by decide +kernel⟩, List.forall_mem_cons.mpr ⟨ab_istore_ok dL_law_2325, List.forall_mem_cons.mpr ⟨ab_aload_n_ok dL_law_2327 rfl, List.forall_mem_cons.mpr ⟨ab_aload_n_ok dL_law_2328 rfl, List.forall_mem_cons.mpr ⟨ab_iload_ok dL_law_2329, List.forall_mem_cons.mpr ⟨ab_iconst_ok dL_law_2331 (by decide), List.forall_mem_cons.mpr ⟨ab_iadd_ok dL_law_2332, List.forall_mem_cons.mpr ⟨ab_scr_ok dL_law_2333, List.forall_mem_cons.mpr ⟨ab_callV_ok' (G' := ab_g17) (C := RX7) (T := TX7) (N := 19) dL_law_2334 ab_m17 rfl rfl (by decide) (by decide) (ab_l4 ab_w65 ab_w66 ab_w67 ab_w8) ab_w68 rfl ⟨by decide, by decide, by decide +kernel⟩, List.forall_mem_cons.mpr ⟨ab_istore_ok dL_law_2337, List.forall_mem_cons.mpr ⟨ab_aload_n_ok dL_law_2339 rfl, List.forall_mem_cons.mpr ⟨ab_callV_ok' (G' := ab_g5) (C := RX7) (T := TX7) (N := 19) dL_law_2340 ab_m5 rfl rfl (by decide) (by decide) (ab_l4 ab_w22 ab_w23 ab_w24 ab_w8) ab_w25 rfl ⟨by decide, by decide, by decide +kernel⟩, List.forall_mem_cons.mpr ⟨ab_iload_ok dL_law_2343, List.forall_mem_cons.mpr ⟨ab_icmp_eq_ok dL_law_2345 (by decide), List.forall_mem_cons.mpr ⟨ab_iconst_ok dL_law_2348 (by decide), List.forall_mem_cons.mpr ⟨ab_zret_ok dL_law_2349 rfl, List.forall_mem_cons.mpr ⟨ab_iload_ok dL_law_2350, List.forall_mem_cons.mpr ⟨ab_if_ne_ok dL_law_2352 (by decide), List.forall_mem_cons.mpr ⟨ab_aload_n_ok dL_law_2355 rfl, List.forall_mem_cons.mpr ⟨ab_iconst_ok dL_law_2356 (by decide), fun _ h => absurd h List.not_mem_nil⟩⟩⟩⟩⟩⟩⟩⟩⟩⟩⟩⟩⟩⟩⟩⟩⟩⟩⟩⟩⟩⟩⟩⟩⟩⟩⟩⟩⟩⟩⟩⟩⟩⟩⟩⟩⟩⟩⟩⟩
theorem dL_law_2357 : decode cL_law 2357 = .ok (.laload, 1) := by decide +kernel
theorem dL_law_2358 : decode cL_law 2358 = .ok (.iload 7, 2) := by decide +kernel
theorem dL_law_2360 : decode cL_law 2360 = .ok (.i2l, 1) := by decide +kernel
theorem dL_law_2361 : decode cL_law 2361 = .ok (.lcmp, 1) := by decide +kernel
theorem dL_law_2362 : decode cL_law 2362 = .ok (.ifCond .eq 5, 3) := by decide +kernel
theorem dL_law_2365 : decode cL_law 2365 = .ok (.iconst 0, 1) := by decide +kernel
theorem dL_law_2366 : decode cL_law 2366 = .ok (.ireturn, 1) := by decide +kernel
theorem dL_law_2367 : decode cL_law 2367 = .ok (.goto 303, 3) := by decide +kernel
theorem dL_law_2370 : decode cL_law 2370 = .ok (.aload_n 1, 1) := by decide +kernel
theorem dL_law_2371 : decode cL_law 2371 = .ok (.aload_n 0, 1) := by decide +kernel
theorem dL_law_2372 : decode cL_law 2372 = .ok (.iload 5, 2) := by decide +kernel
theorem dL_law_2374 : decode cL_law 2374 = .ok (.iconst 1, 1) := by decide +kernel
theorem dL_law_2375 : decode cL_law 2375 = .ok (.iadd, 1) := by decide +kernel
theorem dL_law_2376 : decode cL_law 2376 = .ok (.iaload, 1) := by decide +kernel
theorem dL_law_2377 : decode cL_law 2377 = .ok (.aload 4, 2) := by decide +kernel
theorem dL_law_2379 : decode cL_law 2379 = .ok (.invokestatic 269, 3) := by decide +kernel
theorem dL_law_2382 : decode cL_law 2382 = .ok (.istore 6, 2) := by decide +kernel
theorem dL_law_2384 : decode cL_law 2384 = .ok (.aload_n 2, 1) := by decide +kernel
theorem dL_law_2385 : decode cL_law 2385 = .ok (.aload_n 0, 1) := by decide +kernel
theorem dL_law_2386 : decode cL_law 2386 = .ok (.iload 5, 2) := by decide +kernel
theorem dL_law_2388 : decode cL_law 2388 = .ok (.iconst 1, 1) := by decide +kernel
theorem dL_law_2389 : decode cL_law 2389 = .ok (.iadd, 1) := by decide +kernel
theorem dL_law_2390 : decode cL_law 2390 = .ok (.iaload, 1) := by decide +kernel
theorem dL_law_2391 : decode cL_law 2391 = .ok (.invokevirtual 272, 3) := by decide +kernel
theorem dL_law_2394 : decode cL_law 2394 = .ok (.fstore 7, 2) := by decide +kernel
theorem dL_law_2396 : decode cL_law 2396 = .ok (.aload_n 2, 1) := by decide +kernel
theorem dL_law_2397 : decode cL_law 2397 = .ok (.invokevirtual 158, 3) := by decide +kernel
theorem dL_law_2400 : decode cL_law 2400 = .ok (.iload 6, 2) := by decide +kernel
theorem dL_law_2402 : decode cL_law 2402 = .ok (.if_icmp .eq 5, 3) := by decide +kernel
theorem dL_law_2405 : decode cL_law 2405 = .ok (.iconst 0, 1) := by decide +kernel
theorem dL_law_2406 : decode cL_law 2406 = .ok (.ireturn, 1) := by decide +kernel
theorem dL_law_2407 : decode cL_law 2407 = .ok (.iload 6, 2) := by decide +kernel
theorem dL_law_2409 : decode cL_law 2409 = .ok (.ifCond .ne 36, 3) := by decide +kernel
theorem dL_law_2412 : decode cL_law 2412 = .ok (.aload 4, 2) := by decide +kernel
theorem dL_law_2414 : decode cL_law 2414 = .ok (.iconst 0, 1) := by decide +kernel
theorem dL_law_2415 : decode cL_law 2415 = .ok (.daload, 1) := by decide +kernel
theorem dL_law_2416 : decode cL_law 2416 = .ok (.fload 7, 2) := by decide +kernel
theorem dL_law_2418 : decode cL_law 2418 = .ok (.f2d, 1) := by decide +kernel
theorem dL_law_2419 : decode cL_law 2419 = .ok (.dcmp .l, 1) := by decide +kernel
theorem dL_law_2420 : decode cL_law 2420 = .ok (.ifCond .eq 25, 3) := by decide +kernel
theorem ab_k0_35 (K : ab_Kt) : ∀ q ∈ ab_l0_35 K, ab_OK K ab_mt ab_g0 q.1 q.2 := by
  unfold ab_l0_35
  exact List.forall_mem_cons.mpr ⟨ab_lald_ok dL_law_2357, List.forall_mem_cons.mpr ⟨ab_iload_ok dL_law_2358, List.forall_mem_cons.mpr ⟨ab_i2l_ok dL_law_2360, List.forall_mem_cons.mpr ⟨ab_lcmp_ok dL_law_2361, List.forall_mem_cons.mpr ⟨ab_if_eq_ok dL_law_2362 (by decide), List.forall_mem_cons.mpr ⟨ab_iconst_ok dL_law_2365 (by decide), List.forall_mem_cons.mpr ⟨ab_zret_ok dL_law_2366 rfl, List.forall_mem_cons.mpr ⟨ab_goto_ok dL_law_2367 (by decide), List.forall_mem_cons.mpr ⟨ab_aload_n_ok dL_law_2370 rfl, List.forall_mem_cons.mpr ⟨ab_aload_n_ok dL_law_2371 rfl, List.forall_mem_cons.mpr ⟨ab_iload_ok dL_law_2372, List.forall_mem_cons.mpr ⟨ab_iconst_ok dL_law_2374 (by decide), List.forall_mem_cons.mpr ⟨ab_iadd_ok dL_law_2375, List.forall_mem_cons.mpr ⟨ab_scr_ok dL_law_2376, List.forall_mem_cons.mpr ⟨ab_aload_ok dL_law_2377, List.forall_mem_cons.mpr ⟨ab_callSX_ok' (G' := ab_g14) dL_law_2379 ab_m14 (by decide) (by decide) (ab_l3 ab_w55 ab_w56 ab_w16) ab_w57 rfl ⟨by decide, by decide, by decide +kernel⟩, List.forall_mem_cons.mpr ⟨ab_istore_ok dL_law_2382, List.forall_mem_cons.mpr ⟨ab_aload_n_ok dL_law_2384 rfl, List.forall_mem_cons.mpr ⟨ab_aload_n_ok dL_law_2385 rfl, List.forall_mem_cons.mpr ⟨ab_iload_ok dL_law_2386, List.forall_mem_cons.mpr ⟨ab_iconst_ok dL_law_2388 (by decide), List.forall_mem_cons.mpr ⟨ab_iadd_ok dL_law_2389, List.forall_mem_cons.mpr ⟨ab_scr_ok dL_law_2390, List.forall_mem_cons.mpr ⟨ab_callV_ok' (G' := ab_g15) (C := RX7) (T := TX7) (N := 19) dL_law_2391 ab_m15 rfl rfl (by decide) (by decide) (ab_l4 ab_w58 ab_w59 ab_w60 ab_w8) ab_w61 rfl ⟨by decide, by decide, by decide +kernel⟩, List.forall_mem_cons.mpr ⟨ab_fstore_ok dL_law_2394, List.forall_mem_cons.mpr ⟨ab_aload_n_ok dL_law_2396 rfl, List.forall_mem_cons.mpr ⟨ab_callV_ok' (G' := ab_g5) (C := RX7) (T := TX7) (N := 19) dL_law_2397 ab_m5 rfl rfl (by decide) (by decide) (ab_l4 ab_w22 ab_w23 ab_w24 ab_w8) ab_w25 rfl ⟨by decide, by decide, by decide +kernel⟩, List.forall_mem_cons.mpr ⟨ab_iload_ok dL_law_2400, List.forall_mem_cons.mpr ⟨ab_icmp_eq_ok dL_law_2402 (by decide), List.forall_mem_cons.mpr ⟨ab_iconst_ok dL_law_2405 (by decide), List.forall_mem_cons.mpr ⟨ab_zret_ok dL_law_2406 rfl, List.forall_mem_cons.mpr ⟨ab_iload_ok dL_law_2407, List.forall_mem_cons.mpr ⟨ab_if_ne_ok dL_law_2409 (by decide), List.forall_mem_cons.mpr ⟨ab_aload_ok dL_law_2412, List.forall_mem_cons.mpr ⟨ab_iconst_ok dL_law_2414 (by decide), List.forall_mem_cons.mpr ⟨ab_dald_ok dL_law_2415, List.forall_mem_cons.mpr ⟨ab_fload_ok dL_law_2416, List.forall_mem_cons.mpr ⟨ab_f2d_ok dL_law_2418, List.forall_mem_cons.mpr ⟨ab_dcmp_ok dL_law_2419, List.forall_mem_cons.mpr ⟨ab_if_eq_ok dL_law_2420 (by decide), fun _ h => absurd h List.not_mem_nil⟩⟩⟩⟩⟩⟩⟩⟩⟩⟩⟩⟩⟩⟩⟩⟩⟩⟩⟩⟩⟩⟩⟩⟩⟩⟩⟩⟩⟩⟩⟩⟩⟩⟩⟩⟩⟩⟩⟩⟩
theorem dL_law_2423 : decode cL_law 2423 = .ok (.aload 4, 2) := by decide +kernel
theorem dL_law_2425 : decode cL_law 2425 = .ok (.iconst 0, 1) := by decide +kernel
theorem dL_law_2426 : decode cL_law 2426 = .ok (.daload, 1) := by decide +kernel
theorem dL_law_2427 : decode cL_law 2427 = .ok (.aload 4, 2) := by decide +kernel
theorem dL_law_2429 : decode cL_law 2429 = .ok (.iconst 0, 1) := by decide +kernel
theorem dL_law_2430 : decode cL_law 2430 = .ok (.daload, 1) := by decide +kernel
theorem dL_law_2431 : decode cL_law 2431 = .ok (.dcmp .l, 1) := by decide +kernel
theorem dL_law_2432 : decode cL_law 2432 = .ok (.ifCond .eq 11, 3) := by decide +kernel
theorem dL_law_2435 : decode cL_law 2435 = .ok (.fload 7, 2) := by decide +kernel
theorem dL_law_2437 : decode cL_law 2437 = .ok (.fload 7, 2) := by decide +kernel
theorem dL_law_2439 : decode cL_law 2439 = .ok (.fcmp .l, 1) := by decide +kernel
theorem dL_law_2440 : decode cL_law 2440 = .ok (.ifCond .ne 5, 3) := by decide +kernel
theorem dL_law_2443 : decode cL_law 2443 = .ok (.iconst 0, 1) := by decide +kernel
theorem dL_law_2444 : decode cL_law 2444 = .ok (.ireturn, 1) := by decide +kernel
theorem dL_law_2445 : decode cL_law 2445 = .ok (.goto 225, 3) := by decide +kernel
theorem dL_law_2448 : decode cL_law 2448 = .ok (.aload_n 1, 1) := by decide +kernel
theorem dL_law_2449 : decode cL_law 2449 = .ok (.aload 4, 2) := by decide +kernel
theorem dL_law_2451 : decode cL_law 2451 = .ok (.invokestatic 273, 3) := by decide +kernel
theorem dL_law_2454 : decode cL_law 2454 = .ok (.istore 6, 2) := by decide +kernel
theorem dL_law_2456 : decode cL_law 2456 = .ok (.aload_n 2, 1) := by decide +kernel
theorem dL_law_2457 : decode cL_law 2457 = .ok (.invokevirtual 276, 3) := by decide +kernel
theorem dL_law_2460 : decode cL_law 2460 = .ok (.dstore 7, 2) := by decide +kernel
theorem dL_law_2462 : decode cL_law 2462 = .ok (.aload_n 2, 1) := by decide +kernel
theorem dL_law_2463 : decode cL_law 2463 = .ok (.invokevirtual 158, 3) := by decide +kernel
theorem dL_law_2466 : decode cL_law 2466 = .ok (.iload 6, 2) := by decide +kernel
theorem dL_law_2468 : decode cL_law 2468 = .ok (.if_icmp .eq 5, 3) := by decide +kernel
theorem dL_law_2471 : decode cL_law 2471 = .ok (.iconst 0, 1) := by decide +kernel
theorem dL_law_2472 : decode cL_law 2472 = .ok (.ireturn, 1) := by decide +kernel
theorem dL_law_2473 : decode cL_law 2473 = .ok (.iload 6, 2) := by decide +kernel
theorem dL_law_2475 : decode cL_law 2475 = .ok (.ifCond .ne 35, 3) := by decide +kernel
theorem dL_law_2478 : decode cL_law 2478 = .ok (.aload 4, 2) := by decide +kernel
theorem dL_law_2480 : decode cL_law 2480 = .ok (.iconst 0, 1) := by decide +kernel
theorem dL_law_2481 : decode cL_law 2481 = .ok (.daload, 1) := by decide +kernel
theorem dL_law_2482 : decode cL_law 2482 = .ok (.dload 7, 2) := by decide +kernel
theorem dL_law_2484 : decode cL_law 2484 = .ok (.dcmp .l, 1) := by decide +kernel
theorem dL_law_2485 : decode cL_law 2485 = .ok (.ifCond .eq 25, 3) := by decide +kernel
theorem dL_law_2488 : decode cL_law 2488 = .ok (.aload 4, 2) := by decide +kernel
theorem dL_law_2490 : decode cL_law 2490 = .ok (.iconst 0, 1) := by decide +kernel
theorem dL_law_2491 : decode cL_law 2491 = .ok (.daload, 1) := by decide +kernel
theorem dL_law_2492 : decode cL_law 2492 = .ok (.aload 4, 2) := by decide +kernel
theorem ab_k0_36 (K : ab_Kt) : ∀ q ∈ ab_l0_36 K, ab_OK K ab_mt ab_g0 q.1 q.2 := by
  unfold ab_l0_36
  exact List.forall_mem_cons.mpr ⟨ab_aload_ok dL_law_2423, List.forall_mem_cons.mpr ⟨ab_iconst_ok dL_law_2425 (by decide), List.forall_mem_cons.mpr ⟨ab_dald_ok dL_law_2426, List.forall_mem_cons.mpr ⟨ab_aload_ok dL_law_2427, List.forall_mem_cons.mpr ⟨ab_iconst_ok dL_law_2429 (by decide), List.forall_mem_cons.mpr ⟨ab_dald_ok dL_law_2430, List.forall_mem_cons.mpr ⟨ab_dcmp_ok dL_law_2431, List.forall_mem_cons.mpr ⟨ab_if_eq_ok dL_law_2432 (by decide), List.forall_mem_cons.mpr ⟨ab_fload_ok dL_law_2435, List.forall_mem_cons.mpr ⟨ab_fload_ok dL_law_2437, List.forall_mem_cons.mpr ⟨ab_fcmp_ok dL_law_2439, List.forall_mem_cons.mpr ⟨ab_if_ne_ok dL_law_2440 (by decide), List.forall_mem_cons.mpr ⟨ab_iconst_ok dL_law_2443 (by decide), List.forall_mem_cons.mpr ⟨ab_zret_ok dL_law_2444 rfl, List.forall_mem_cons.mpr ⟨ab_goto_ok dL_law_2445 (by decide), List.forall_mem_cons.mpr ⟨ab_aload_n_ok dL_law_2448 rfl, List.forall_mem_cons.mpr ⟨ab_aload_ok dL_law_2449, List.forall_mem_cons.mpr ⟨ab_callSX_ok' (G' := ab_g12) dL_law_2451 ab_m12 (by decide) (by decide) (ab_l3 ab_w48 ab_w49 ab_w16) ab_w50 rfl ⟨by decide, by decide, by decide +kernel⟩, List.forall_mem_cons.mpr ⟨ab_istore_ok dL_law_2454, List.forall_mem_cons.mpr ⟨ab_aload_n_ok dL_law_2456 rfl, List.forall_mem_cons.mpr ⟨ab_callV_ok' (G' := ab_g13) (C := RX7) (T := TX7) (N := 19) dL_law_2457 ab_m13 rfl rfl (by decide) (by decide) (ab_l4 ab_w51 ab_w52 ab_w53 ab_w8) ab_w54 rfl ⟨by decide, by decide, by decide +kernel⟩, List.forall_mem_cons.mpr ⟨ab_dstore_ok dL_law_2460, List.forall_mem_cons.mpr ⟨ab_aload_n_ok dL_law_2462 rfl, List.forall_mem_cons.mpr ⟨ab_callV_ok' (G' := ab_g5) (C := RX7) (T := TX7) (N := 19) dL_law_2463 ab_m5 rfl rfl (by decide) (by decide) (ab_l4 ab_w22 ab_w23 ab_w24 ab_w8) ab_w25 rfl ⟨by decide, by decide, by decide +kernel⟩, List.forall_mem_cons.mpr ⟨ab_iload_ok dL_law_2466, List.forall_mem_cons.mpr ⟨ab_icmp_eq_ok dL_law_2468 (by decide), List.forall_mem_cons.mpr ⟨ab_iconst_ok dL_law_2471 (by decide), List.forall_mem_cons.mpr ⟨ab_zret_ok dL_law_2472 rfl, List.forall_mem_cons.mpr ⟨ab_iload_ok dL_law_2473, List.forall_mem_cons.mpr ⟨ab_if_ne_ok dL_law_2475 (by decide), List.forall_mem_cons.mpr ⟨ab_aload_ok dL_law_2478, List.forall_mem_cons.mpr ⟨ab_iconst_ok dL_law_2480 (by decide), List.forall_mem_cons.mpr ⟨ab_dald_ok dL_law_2481, List.forall_mem_cons.mpr ⟨ab_dload_ok dL_law_2482, List.forall_mem_cons.mpr ⟨ab_dcmp_ok dL_law_2484, List.forall_mem_cons.mpr ⟨ab_if_eq_ok dL_law_2485 (by decide), List.forall_mem_cons.mpr ⟨ab_aload_ok dL_law_2488, List.forall_mem_cons.mpr ⟨ab_iconst_ok dL_law_2490 (by decide), List.forall_mem_cons.mpr ⟨ab_dald_ok dL_law_2491, List.forall_mem_cons.mpr ⟨ab_aload_ok dL_law_2492, fun _ h => absurd h List.not_mem_nil⟩⟩⟩⟩⟩⟩⟩⟩⟩⟩⟩⟩⟩⟩⟩⟩⟩⟩⟩⟩⟩⟩⟩⟩⟩⟩⟩⟩⟩⟩⟩⟩⟩⟩⟩⟩⟩⟩⟩⟩
theorem dL_law_2494 : decode cL_law 2494 = .ok (.iconst 0, 1) := by decide +kernel
theorem dL_law_2495 : decode cL_law 2495 = .ok (.daload, 1) := by decide +kernel
theorem dL_law_2496 : decode cL_law 2496 = .ok (.dcmp .l, 1) := by decide +kernel
theorem dL_law_2497 : decode cL_law 2497 = .ok (.ifCond .eq 11, 3) := by decide +kernel
theorem dL_law_2500 : decode cL_law 2500 = .ok (.dload 7, 2) := by decide +kernel
theorem dL_law_2502 : decode cL_law 2502 = .ok (.dload 7, 2) := by decide +kernel
theorem dL_law_2504 : decode cL_law 2504 = .ok (.dcmp .l, 1) := by decide +kernel
theorem dL_law_2505 : decode cL_law 2505 = .ok (.ifCond .ne 5, 3) := by decide +kernel
theorem dL_law_2508 : decode cL_law 2508 = .ok (.iconst 0, 1) := by decide +kernel
theorem dL_law_2509 : decode cL_law 2509 = .ok (.ireturn, 1) := by decide +kernel
theorem dL_law_2510 : decode cL_law 2510 = .ok (.goto 160, 3) := by decide +kernel
theorem dL_law_2513 : decode cL_law 2513 = .ok (.aload_n 1, 1) := by decide +kernel
theorem dL_law_2514 : decode cL_law 2514 = .ok (.aload_n 0, 1) := by decide +kernel
theorem dL_law_2515 : decode cL_law 2515 = .ok (.iload 5, 2) := by decide +kernel
theorem dL_law_2517 : decode cL_law 2517 = .ok (.iconst 1, 1) := by decide +kernel
theorem dL_law_2518 : decode cL_law 2518 = .ok (.iadd, 1) := by decide +kernel
theorem dL_law_2519 : decode cL_law 2519 = .ok (.iaload, 1) := by decide +kernel
theorem dL_law_2520 : decode cL_law 2520 = .ok (.aload_n 3, 1) := by decide +kernel
theorem dL_law_2521 : decode cL_law 2521 = .ok (.invokestatic 277, 3) := by decide +kernel
theorem dL_law_2524 : decode cL_law 2524 = .ok (.istore 6, 2) := by decide +kernel
theorem dL_law_2526 : decode cL_law 2526 = .ok (.aload_n 2, 1) := by decide +kernel
theorem dL_law_2527 : decode cL_law 2527 = .ok (.aload_n 0, 1) := by decide +kernel
theorem dL_law_2528 : decode cL_law 2528 = .ok (.iload 5, 2) := by decide +kernel
theorem dL_law_2530 : decode cL_law 2530 = .ok (.iconst 1, 1) := by decide +kernel
theorem dL_law_2531 : decode cL_law 2531 = .ok (.iadd, 1) := by decide +kernel
theorem dL_law_2532 : decode cL_law 2532 = .ok (.iaload, 1) := by decide +kernel
theorem dL_law_2533 : decode cL_law 2533 = .ok (.invokevirtual 279, 3) := by decide +kernel
theorem dL_law_2536 : decode cL_law 2536 = .ok (.istore 7, 2) := by decide +kernel
theorem dL_law_2538 : decode cL_law 2538 = .ok (.aload_n 2, 1) := by decide +kernel
theorem dL_law_2539 : decode cL_law 2539 = .ok (.invokevirtual 158, 3) := by decide +kernel
theorem dL_law_2542 : decode cL_law 2542 = .ok (.iload 6, 2) := by decide +kernel
theorem dL_law_2544 : decode cL_law 2544 = .ok (.if_icmp .eq 5, 3) := by decide +kernel
theorem dL_law_2547 : decode cL_law 2547 = .ok (.iconst 0, 1) := by decide +kernel
theorem dL_law_2548 : decode cL_law 2548 = .ok (.ireturn, 1) := by decide +kernel
theorem dL_law_2549 : decode cL_law 2549 = .ok (.iload 6, 2) := by decide +kernel
theorem dL_law_2551 : decode cL_law 2551 = .ok (.ifCond .ne 15, 3) := by decide +kernel
theorem dL_law_2554 : decode cL_law 2554 = .ok (.aload_n 3, 1) := by decide +kernel
theorem dL_law_2555 : decode cL_law 2555 = .ok (.iconst 0, 1) := by decide +kernel
theorem dL_law_2556 : decode cL_law 2556 = .ok (.laload, 1) := by decide +kernel
theorem dL_law_2557 : decode cL_law 2557 = .ok (.iload 7, 2) := by decide +kernel
theorem ab_k0_37 (K : ab_Kt) : ∀ q ∈ ab_l0_37 K, ab_OK K ab_mt ab_g0 q.1 q.2 := by
  unfold ab_l0_37
  exact List.forall_mem_cons.mpr ⟨ab_iconst_ok dL_law_2494 (by decide), List.forall_mem_cons.mpr ⟨ab_dald_ok dL_law_2495, List.forall_mem_cons.mpr ⟨ab_dcmp_ok dL_law_2496, List.forall_mem_cons.mpr ⟨ab_if_eq_ok dL_law_2497 (by decide), List.forall_mem_cons.mpr ⟨ab_dload_ok dL_law_2500, List.forall_mem_cons.mpr ⟨ab_dload_ok dL_law_2502, List.forall_mem_cons.mpr ⟨ab_dcmp_ok dL_law_2504, List.forall_mem_cons.mpr ⟨ab_if_ne_ok dL_law_2505 (by decide), List.forall_mem_cons.mpr ⟨ab_iconst_ok dL_law_2508 (by decide), List.forall_mem_cons.mpr ⟨ab_zret_ok dL_law_2509 rfl, List.forall_mem_cons.mpr ⟨ab_goto_ok dL_law_2510 (by decide), List.forall_mem_cons.mpr ⟨ab_aload_n_ok dL_law_2513 rfl, List.forall_mem_cons.mpr ⟨ab_aload_n_ok dL_law_2514 rfl, List.forall_mem_cons.mpr ⟨ab_iload_ok dL_law_2515, List.forall_mem_cons.mpr ⟨ab_iconst_ok dL_law_2517 (by decide), List.forall_mem_cons.mpr ⟨ab_iadd_ok dL_law_2518, List.forall_mem_cons.mpr ⟨ab_scr_ok dL_law_2519, List.forall_mem_cons.mpr ⟨ab_aload_n_ok dL_law_2520 rfl, List.forall_mem_cons.mpr ⟨ab_callSX_ok' (G' := ab_g10) dL_law_2521 ab_m10 (by decide) (by decide) (ab_l3 ab_w41 ab_w42 ab_w16) ab_w43 rfl ⟨by decide, by decide, by decide +kernel⟩, List.forall_mem_cons.mpr ⟨ab_istore_ok dL_law_2524, List.forall_mem_cons.mpr ⟨ab_aload_n_ok dL_law_2526 rfl, List.forall_mem_cons.mpr ⟨ab_aload_n_ok dL_law_2527 rfl, List.forall_mem_cons.mpr ⟨ab_iload_ok dL_law_2528, List.forall_mem_cons.mpr ⟨ab_iconst_ok dL_law_2530 (by decide), List.forall_mem_cons.mpr ⟨ab_iadd_ok dL_law_2531, List.forall_mem_cons.mpr ⟨ab_scr_ok dL_law_2532, List.forall_mem_cons.mpr ⟨ab_callV_ok' (G' := ab_g11) (C := RX7) (T := TX7) (N := 19) dL_law_2533 ab_m11 rfl rfl (by decide) (by decide) (ab_l4 ab_w44 ab_w45 ab_w46 ab_w8) ab_w47 rfl ⟨by decide, by decide, by decide +kernel⟩, List.forall_mem_cons.mpr ⟨ab_istore_ok dL_law_2536, List.forall_mem_cons.mpr ⟨ab_aload_n_ok dL_law_2538 rfl, List.forall_mem_cons.mpr ⟨ab_callV_ok' (G' := ab_g5) (C := RX7) (T := TX7) (N := 19) dL_law_2539 ab_m5 rfl rfl (by decide) (by decide) (ab_l4 ab_w22 ab_w23 ab_w24 ab_w8) ab_w25 rfl ⟨by decide, by decide, by decide +kernel⟩, List.forall_mem_cons.mpr ⟨ab_iload_ok dL_law_2542, List.forall_mem_cons.mpr ⟨ab_icmp_eq_ok dL_law_2544 (by decide), List.forall_mem_cons.mpr ⟨ab_iconst_ok dL_law_2547 (by decide), List.forall_mem_cons.mpr ⟨ab_zret_ok dL_law_2548 rfl, List.forall_mem_cons.mpr ⟨ab_iload_ok dL_law_2549, List.forall_mem_cons.mpr ⟨ab_if_ne_ok dL_law_2551 (by decide), List.forall_mem_cons.mpr ⟨ab_aload_n_ok dL_law_2554 rfl, List.forall_mem_cons.mpr ⟨ab_iconst_ok dL_law_2555 (by decide), List.forall_mem_cons.mpr ⟨ab_lald_ok dL_law_2556, List.forall_mem_cons.mpr ⟨ab_iload_ok dL_law_2557, fun _ h => absurd h List.not_mem_nil⟩⟩⟩⟩⟩⟩⟩⟩⟩⟩⟩⟩⟩⟩⟩⟩⟩⟩⟩⟩⟩⟩⟩⟩⟩⟩⟩⟩⟩⟩⟩⟩⟩⟩⟩⟩⟩⟩⟩⟩
theorem dL_law_2559 : decode cL_law 2559 = .ok (.i2l, 1) := by decide +kernel
theorem dL_law_2560 : decode cL_law 2560 = .ok (.lcmp, 1) := by decide +kernel
theorem dL_law_2561 : decode cL_law 2561 = .ok (.ifCond .eq 5, 3) := by decide +kernel
theorem dL_law_2564 : decode cL_law 2564 = .ok (.iconst 0, 1) := by decide +kernel
theorem dL_law_2565 : decode cL_law 2565 = .ok (.ireturn, 1) := by decide +kernel
theorem dL_law_2566 : decode cL_law 2566 = .ok (.goto 104, 3) := by decide +kernel
theorem dL_law_2569 : decode cL_law 2569 = .ok (.aload_n 1, 1) := by decide +kernel
theorem dL_law_2570 : decode cL_law 2570 = .ok (.aload_n 3, 1) := by decide +kernel
theorem dL_law_2571 : decode cL_law 2571 = .ok (.invokestatic 280, 3) := by decide +kernel
theorem dL_law_2574 : decode cL_law 2574 = .ok (.istore 6, 2) := by decide +kernel
theorem dL_law_2576 : decode cL_law 2576 = .ok (.aload_n 2, 1) := by decide +kernel
theorem dL_law_2577 : decode cL_law 2577 = .ok (.invokevirtual 282, 3) := by decide +kernel
theorem dL_law_2580 : decode cL_law 2580 = .ok (.istore 7, 2) := by decide +kernel
theorem dL_law_2582 : decode cL_law 2582 = .ok (.aload_n 2, 1) := by decide +kernel
theorem dL_law_2583 : decode cL_law 2583 = .ok (.invokevirtual 158, 3) := by decide +kernel
theorem dL_law_2586 : decode cL_law 2586 = .ok (.iload 6, 2) := by decide +kernel
theorem dL_law_2588 : decode cL_law 2588 = .ok (.if_icmp .eq 5, 3) := by decide +kernel
theorem dL_law_2591 : decode cL_law 2591 = .ok (.iconst 0, 1) := by decide +kernel
theorem dL_law_2592 : decode cL_law 2592 = .ok (.ireturn, 1) := by decide +kernel
theorem dL_law_2593 : decode cL_law 2593 = .ok (.iload 6, 2) := by decide +kernel
theorem dL_law_2595 : decode cL_law 2595 = .ok (.ifCond .ne 15, 3) := by decide +kernel
theorem dL_law_2598 : decode cL_law 2598 = .ok (.aload_n 3, 1) := by decide +kernel
theorem dL_law_2599 : decode cL_law 2599 = .ok (.iconst 0, 1) := by decide +kernel
theorem dL_law_2600 : decode cL_law 2600 = .ok (.laload, 1) := by decide +kernel
theorem dL_law_2601 : decode cL_law 2601 = .ok (.iload 7, 2) := by decide +kernel
theorem dL_law_2603 : decode cL_law 2603 = .ok (.i2l, 1) := by decide +kernel
theorem dL_law_2604 : decode cL_law 2604 = .ok (.lcmp, 1) := by decide +kernel
theorem dL_law_2605 : decode cL_law 2605 = .ok (.ifCond .eq 5, 3) := by decide +kernel
theorem dL_law_2608 : decode cL_law 2608 = .ok (.iconst 0, 1) := by decide +kernel
theorem dL_law_2609 : decode cL_law 2609 = .ok (.ireturn, 1) := by decide +kernel
theorem dL_law_2610 : decode cL_law 2610 = .ok (.goto 60, 3) := by decide +kernel
theorem dL_law_2613 : decode cL_law 2613 = .ok (.aload_n 1, 1) := by decide +kernel
theorem dL_law_2614 : decode cL_law 2614 = .ok (.invokevirtual 283, 3) := by decide +kernel
theorem dL_law_2617 : decode cL_law 2617 = .ok (.aload_n 2, 1) := by decide +kernel
theorem dL_law_2618 : decode cL_law 2618 = .ok (.invokevirtual 286, 3) := by decide +kernel
theorem dL_law_2621 : decode cL_law 2621 = .ok (.if_icmp .eq 49, 3) := by decide +kernel
theorem dL_law_2624 : decode cL_law 2624 = .ok (.iconst 0, 1) := by decide +kernel
theorem dL_law_2625 : decode cL_law 2625 = .ok (.ireturn, 1) := by decide +kernel
theorem dL_law_2626 : decode cL_law 2626 = .ok (.aload_n 1, 1) := by decide +kernel
theorem dL_law_2627 : decode cL_law 2627 = .ok (.aload_n 3, 1) := by decide +kernel
theorem ab_k0_38 (K : ab_Kt) : ∀ q ∈ ab_l0_38 K, ab_OK K ab_mt ab_g0 q.1 q.2 := by
  unfold ab_l0_38
  exact List.forall_mem_cons.mpr ⟨ab_i2l_ok dL_law_2559, List.forall_mem_cons.mpr ⟨ab_lcmp_ok dL_law_2560, List.forall_mem_cons.mpr ⟨ab_if_eq_ok dL_law_2561 (by decide), List.forall_mem_cons.mpr ⟨ab_iconst_ok dL_law_2564 (by decide), List.forall_mem_cons.mpr ⟨ab_zret_ok dL_law_2565 rfl, List.forall_mem_cons.mpr ⟨ab_goto_ok dL_law_2566 (by decide), List.forall_mem_cons.mpr ⟨ab_aload_n_ok dL_law_2569 rfl, List.forall_mem_cons.mpr ⟨ab_aload_n_ok dL_law_2570 rfl, List.forall_mem_cons.mpr ⟨ab_callSX_ok' (G' := ab_g8) dL_law_2571 ab_m8 (by decide) (by decide) (ab_l3 ab_w34 ab_w35 ab_w16) ab_w36 rfl ⟨by decide, by decide, by decide +kernel⟩, List.forall_mem_cons.mpr ⟨ab_istore_ok dL_law_2574, List.forall_mem_cons.mpr ⟨ab_aload_n_ok dL_law_2576 rfl, List.forall_mem_cons.mpr ⟨ab_callV_ok' (G' := ab_g9) (C := RX7) (T := TX7) (N := 19) dL_law_2577 ab_m9 rfl rfl (by decide) (by decide) (ab_l4 ab_w37 ab_w38 ab_w39 ab_w8) ab_w40 rfl ⟨by decide, by decide, by decide +kernel⟩, List.forall_mem_cons.mpr ⟨ab_istore_ok dL_law_2580, List.forall_mem_cons.mpr ⟨ab_aload_n_ok dL_law_2582 rfl, List.forall_mem_cons.mpr ⟨ab_callV_ok' (G' := ab_g5) (C := RX7) (T := TX7) (N := 19) dL_law_2583 ab_m5 rfl rfl (by decide) (by decide) (ab_l4 ab_w22 ab_w23 ab_w24 ab_w8) ab_w25 rfl ⟨by decide, by decide, by decide +kernel⟩, List.forall_mem_cons.mpr ⟨ab_iload_ok dL_law_2586, List.forall_mem_cons.mpr ⟨ab_icmp_eq_ok dL_law_2588 (by decide), List.forall_mem_cons.mpr ⟨ab_iconst_ok dL_law_2591 (by decide), List.forall_mem_cons.mpr ⟨ab_zret_ok dL_law_2592 rfl, List.forall_mem_cons.mpr ⟨ab_iload_ok dL_law_2593, List.forall_mem_cons.mpr ⟨ab_if_ne_ok dL_law_2595 (by decide), List.forall_mem_cons.mpr ⟨ab_aload_n_ok dL_law_2598 rfl, List.forall_mem_cons.mpr ⟨ab_iconst_ok dL_law_2599 (by decide), List.forall_mem_cons.mpr ⟨ab_lald_ok dL_law_2600, List.forall_mem_cons.mpr ⟨ab_iload_ok dL_law_2601, List.forall_mem_cons.mpr ⟨ab_i2l_ok dL_law_2603, List.forall_mem_cons.mpr ⟨ab_lcmp_ok dL_law_2604, List.forall_mem_cons.mpr ⟨ab_if_eq_ok dL_law_2605 (by decide), List.forall_mem_cons.mpr ⟨ab_iconst_ok dL_law_2608 (by decide), List.forall_mem_cons.mpr ⟨ab_zret_ok dL_law_2609 rfl, List.forall_mem_cons.mpr ⟨ab_goto_ok dL_law_2610 (by decide), List.forall_mem_cons.mpr ⟨ab_aload_n_ok dL_law_2613 rfl, List.forall_mem_cons.mpr ⟨ab_callV_ok' (G' := ab_g6) (C := RX6) (T := TX6) (N := 9) dL_law_2614 ab_m6 rfl rfl (by decide) (by decide) (ab_l4 ab_w26 ab_w27 ab_w28 ab_w2) ab_w29 rfl ⟨by decide, by decide, by decide +kernel⟩, List.forall_mem_cons.mpr ⟨ab_aload_n_ok dL_law_2617 rfl, List.forall_mem_cons.mpr ⟨ab_callV_ok' (G' := ab_g7) (C := RX7) (T := TX7) (N := 19) dL_law_2618 ab_m7 rfl rfl (by decide) (by decide) (ab_l4 ab_w30 ab_w31 ab_w32 ab_w8) ab_w33 rfl ⟨by decide, by decide, by decide +kernel⟩, List.forall_mem_cons.mpr ⟨ab_icmp_eq_ok dL_law_2621 (by decide), List.forall_mem_cons.mpr ⟨ab_iconst_ok dL_law_2624 (by decide), List.forall_mem_cons.mpr ⟨ab_zret_ok dL_law_2625 rfl, List.forall_mem_cons.mpr ⟨ab_aload_n_ok dL_law_2626 rfl, List.forall_mem_cons.mpr ⟨ab_aload_n_ok dL_law_2627 rfl, fun _ h => absurd h List.not_mem_nil⟩⟩⟩⟩⟩⟩⟩⟩⟩⟩⟩⟩⟩⟩⟩⟩⟩⟩⟩⟩⟩⟩⟩⟩⟩⟩⟩⟩⟩⟩⟩⟩⟩⟩⟩⟩⟩⟩⟩⟩
theorem dL_law_2628 : decode cL_law 2628 = .ok (.invokestatic 287, 3) := by decide +kernel
theorem dL_law_2631 : decode cL_law 2631 = .ok (.istore 6, 2) := by decide +kernel
theorem dL_law_2633 : decode cL_law 2633 = .ok (.aload_n 2, 1) := by decide +kernel
theorem dL_law_2634 : decode cL_law 2634 = .ok (.invokevirtual 289, 3) := by decide +kernel
theorem dL_law_2637 : decode cL_law 2637 = .ok (.istore 7, 2) := by decide +kernel
theorem dL_law_2639 : decode cL_law 2639 = .ok (.aload_n 2, 1) := by decide +kernel
theorem dL_law_2640 : decode cL_law 2640 = .ok (.invokevirtual 158, 3) := by decide +kernel
theorem dL_law_2643 : decode cL_law 2643 = .ok (.iload 6, 2) := by decide +kernel
theorem dL_law_2645 : decode cL_law 2645 = .ok (.if_icmp .eq 5, 3) := by decide +kernel
theorem dL_law_2648 : decode cL_law 2648 = .ok (.iconst 0, 1) := by decide +kernel
theorem dL_law_2649 : decode cL_law 2649 = .ok (.ireturn, 1) := by decide +kernel
theorem dL_law_2650 : decode cL_law 2650 = .ok (.iload 6, 2) := by decide +kernel
theorem dL_law_2652 : decode cL_law 2652 = .ok (.ifCond .ne 15, 3) := by decide +kernel
theorem dL_law_2655 : decode cL_law 2655 = .ok (.aload_n 3, 1) := by decide +kernel
theorem dL_law_2656 : decode cL_law 2656 = .ok (.iconst 0, 1) := by decide +kernel
theorem dL_law_2657 : decode cL_law 2657 = .ok (.laload, 1) := by decide +kernel
theorem dL_law_2658 : decode cL_law 2658 = .ok (.iload 7, 2) := by decide +kernel
theorem dL_law_2660 : decode cL_law 2660 = .ok (.i2l, 1) := by decide +kernel
theorem dL_law_2661 : decode cL_law 2661 = .ok (.lcmp, 1) := by decide +kernel
theorem dL_law_2662 : decode cL_law 2662 = .ok (.ifCond .eq 5, 3) := by decide +kernel
theorem dL_law_2665 : decode cL_law 2665 = .ok (.iconst 0, 1) := by decide +kernel
theorem dL_law_2666 : decode cL_law 2666 = .ok (.ireturn, 1) := by decide +kernel
theorem dL_law_2667 : decode cL_law 2667 = .ok (.goto 3, 3) := by decide +kernel
theorem dL_law_2670 : decode cL_law 2670 = .ok (.iinc 5 5, 3) := by decide +kernel
theorem dL_law_2673 : decode cL_law 2673 = .ok (.goto (-2645), 3) := by decide +kernel
theorem dL_law_2676 : decode cL_law 2676 = .ok (.iconst 1, 1) := by decide +kernel
theorem dL_law_2677 : decode cL_law 2677 = .ok (.ireturn, 1) := by decide +kernel
theorem ab_k0_39 (K : ab_Kt) : ∀ q ∈ ab_l0_39 K, ab_OK K ab_mt ab_g0 q.1 q.2 := by
  unfold ab_l0_39
  exact List.forall_mem_cons.mpr ⟨ab_callSX_ok' (G' := ab_g3) dL_law_2628 ab_m3 (by decide) (by decide) (ab_l3 ab_w14 ab_w15 ab_w16) ab_w17 rfl ⟨by decide, by decide, by decide +kernel⟩, List.forall_mem_cons.mpr ⟨ab_istore_ok dL_law_2631, List.forall_mem_cons.mpr ⟨ab_aload_n_ok dL_law_2633 rfl, List.forall_mem_cons.mpr ⟨ab_callV_ok' (G' := ab_g4) (C := RX7) (T := TX7) (N := 19) dL_law_2634 ab_m4 rfl rfl (by decide) (by decide) (ab_l4 ab_w18 ab_w19 ab_w20 ab_w8) ab_w21 rfl ⟨by decide, by decide, by decide +kernel⟩, List.forall_mem_cons.mpr ⟨ab_istore_ok dL_law_2637, List.forall_mem_cons.mpr ⟨ab_aload_n_ok dL_law_2639 rfl, List.forall_mem_cons.mpr ⟨ab_callV_ok' (G' := ab_g5) (C := RX7) (T := TX7) (N := 19) dL_law_2640 ab_m5 rfl rfl (by decide) (by decide) (ab_l4 ab_w22 ab_w23 ab_w24 ab_w8) ab_w25 rfl ⟨by decide, by decide, by decide +kernel⟩, List.forall_mem_cons.mpr ⟨ab_iload_ok dL_law_2643, List.forall_mem_cons.mpr ⟨ab_icmp_eq_ok dL_law_2645 (by decide), List.forall_mem_cons.mpr ⟨ab_iconst_ok dL_law_2648 (by decide), List.forall_mem_cons.mpr ⟨ab_zret_ok dL_law_2649 rfl, List.forall_mem_cons.mpr ⟨ab_iload_ok dL_law_2650, List.forall_mem_cons.mpr ⟨ab_if_ne_ok dL_law_2652 (by decide), List.forall_mem_cons.mpr ⟨ab_aload_n_ok dL_law_2655 rfl, List.forall_mem_cons.mpr ⟨ab_iconst_ok dL_law_2656 (by decide), List.forall_mem_cons.mpr ⟨ab_lald_ok dL_law_2657, List.forall_mem_cons.mpr ⟨ab_iload_ok dL_law_2658, List.forall_mem_cons.mpr ⟨ab_i2l_ok dL_law_2660, List.forall_mem_cons.mpr ⟨ab_lcmp_ok dL_law_2661, List.forall_mem_cons.mpr ⟨ab_if_eq_ok dL_law_2662 (by decide), List.forall_mem_cons.mpr ⟨ab_iconst_ok dL_law_2665 (by decide), List.forall_mem_cons.mpr ⟨ab_zret_ok dL_law_2666 rfl, List.forall_mem_cons.mpr ⟨ab_goto_ok dL_law_2667 (by decide), List.forall_mem_cons.mpr ⟨ab_iinc_ok dL_law_2670 (by decide), List.forall_mem_cons.mpr ⟨ab_goto_ok dL_law_2673 (by decide), List.forall_mem_cons.mpr ⟨ab_iconst_ok dL_law_2676 (by decide), List.forall_mem_cons.mpr ⟨ab_zret_ok dL_law_2677 rfl, fun _ h => absurd h List.not_mem_nil⟩⟩⟩⟩⟩⟩⟩⟩⟩⟩⟩⟩⟩⟩⟩⟩⟩⟩⟩⟩⟩⟩⟩⟩⟩⟩⟩
theorem ab_k0 (K : ab_Kt) : ∀ pc, ab_OK K ab_mt ab_g0 pc (ab_c0 K pc) := ab_lk2_ok _ (List.forall_mem_cons.mpr ⟨ab_k0_0 K, List.forall_mem_cons.mpr ⟨ab_k0_1 K, List.forall_mem_cons.mpr ⟨ab_k0_2 K, List.forall_mem_cons.mpr ⟨ab_k0_3 K, List.forall_mem_cons.mpr ⟨ab_k0_4 K, List.forall_mem_cons.mpr ⟨ab_k0_5 K, List.forall_mem_cons.mpr ⟨ab_k0_6 K, List.forall_mem_cons.mpr ⟨ab_k0_7 K, List.forall_mem_cons.mpr ⟨ab_k0_8 K, List.forall_mem_cons.mpr ⟨ab_k0_9 K, List.forall_mem_cons.mpr ⟨ab_k0_10 K, List.forall_mem_cons.mpr ⟨ab_k0_11 K, List.forall_mem_cons.mpr ⟨ab_k0_12 K, List.forall_mem_cons.mpr ⟨ab_k0_13 K, List.forall_mem_cons.mpr ⟨ab_k0_14 K, List.forall_mem_cons.mpr ⟨ab_k0_15 K, List.forall_mem_cons.mpr ⟨ab_k0_16 K, List.forall_mem_cons.mpr ⟨ab_k0_17 K, List.forall_mem_cons.mpr ⟨ab_k0_18 K, List.forall_mem_cons.mpr ⟨ab_k0_19 K, List.forall_mem_cons.mpr ⟨ab_k0_20 K, List.forall_mem_cons.mpr ⟨ab_k0_21 K, List.forall_mem_cons.mpr ⟨ab_k0_22 K, List.forall_mem_cons.mpr ⟨ab_k0_23 K, List.forall_mem_cons.mpr ⟨ab_k0_24 K, List.forall_mem_cons.mpr ⟨ab_k0_25 K, List.forall_mem_cons.mpr ⟨ab_k0_26 K, List.forall_mem_cons.mpr ⟨ab_k0_27 K, List.forall_mem_cons.mpr ⟨ab_k0_28 K, List.forall_mem_cons.mpr ⟨ab_k0_29 K, List.forall_mem_cons.mpr ⟨ab_k0_30 K, List.forall_mem_cons.mpr ⟨ab_k0_31 K, List.forall_mem_cons.mpr ⟨ab_k0_32 K, List.forall_mem_cons.mpr ⟨ab_k0_33 K, List.forall_mem_cons.mpr ⟨ab_k0_34 K, List.forall_mem_cons.mpr ⟨ab_k0_35 K, List.forall_mem_cons.mpr ⟨ab_k0_36 K, List.forall_mem_cons.mpr ⟨ab_k0_37 K, List.forall_mem_cons.mpr ⟨ab_k0_38 K, List.forall_mem_cons.mpr ⟨ab_k0_39 K, fun _ h => absurd h List.not_mem_nil⟩⟩⟩⟩⟩⟩⟩⟩⟩⟩⟩⟩⟩⟩⟩⟩⟩⟩⟩⟩⟩⟩⟩⟩⟩⟩⟩⟩⟩⟩⟩⟩⟩⟩⟩⟩⟩⟩⟩⟩)
