theorem dL_law_1920 : decode cL_law 1920 = .ok (.iconst 0, 1) := by decide +kernel
theorem dL_law_1921 : decode cL_law 1921 = .ok (.istore 27, 2) := by decide +kernel
theorem dL_law_1923 : decode cL_law 1923 = .ok (.iload 21, 2) := by decide +kernel
theorem dL_law_1925 : decode cL_law 1925 = .ok (.iload 27, 2) := by decide +kernel
theorem dL_law_1927 : decode cL_law 1927 = .ok (.ifCond .eq 17, 3) := by decide +kernel
theorem dL_law_1930 : decode cL_law 1930 = .ok (.iload 24, 2) := by decide +kernel
theorem dL_law_1932 : decode cL_law 1932 = .ok (.iload 19, 2) := by decide +kernel
theorem dL_law_1934 : decode cL_law 1934 = .ok (.if_icmp .ne 10, 3) := by decide +kernel
theorem dL_law_1937 : decode cL_law 1937 = .ok (.iconst 1, 1) := by decide +kernel
theorem dL_law_1938 : decode cL_law 1938 = .ok (.iload 26, 2) := by decide +kernel
theorem dL_law_1940 : decode cL_law 1940 = .ok (.ishl, 1) := by decide +kernel
theorem dL_law_1941 : decode cL_law 1941 = .ok (.goto 4, 3) := by decide +kernel
theorem dL_law_1944 : decode cL_law 1944 = .ok (.iconst 0, 1) := by decide +kernel
theorem dL_law_1945 : decode cL_law 1945 = .ok (.ior, 1) := by decide +kernel
theorem dL_law_1946 : decode cL_law 1946 = .ok (.istore 21, 2) := by decide +kernel
theorem dL_law_1948 : decode cL_law 1948 = .ok (.iload 25, 2) := by decide +kernel
theorem dL_law_1950 : decode cL_law 1950 = .ok (.iload 27, 2) := by decide +kernel
theorem dL_law_1952 : decode cL_law 1952 = .ok (.ifCond .ne 7, 3) := by decide +kernel
theorem dL_law_1955 : decode cL_law 1955 = .ok (.iconst 1, 1) := by decide +kernel
theorem dL_law_1956 : decode cL_law 1956 = .ok (.goto 4, 3) := by decide +kernel
theorem dL_law_1959 : decode cL_law 1959 = .ok (.iconst 0, 1) := by decide +kernel
theorem dL_law_1960 : decode cL_law 1960 = .ok (.iand, 1) := by decide +kernel
theorem dL_law_1961 : decode cL_law 1961 = .ok (.istore 25, 2) := by decide +kernel
theorem dL_law_1963 : decode cL_law 1963 = .ok (.iinc 26 1, 3) := by decide +kernel
theorem dL_law_1966 : decode cL_law 1966 = .ok (.goto (-104), 3) := by decide +kernel
theorem dL_law_1969 : decode cL_law 1969 = .ok (.iload 25, 2) := by decide +kernel
theorem dL_law_1971 : decode cL_law 1971 = .ok (.ifCond .eq 10, 3) := by decide +kernel
theorem dL_law_1974 : decode cL_law 1974 = .ok (.iload 22, 2) := by decide +kernel
theorem dL_law_1976 : decode cL_law 1976 = .ok (.iconst 1, 1) := by decide +kernel
theorem dL_law_1977 : decode cL_law 1977 = .ok (.iadd, 1) := by decide +kernel
theorem dL_law_1978 : decode cL_law 1978 = .ok (.goto 4, 3) := by decide +kernel
theorem dL_law_1981 : decode cL_law 1981 = .ok (.iconst 0, 1) := by decide +kernel
theorem dL_law_1982 : decode cL_law 1982 = .ok (.istore 22, 2) := by decide +kernel
theorem dL_law_1984 : decode cL_law 1984 = .ok (.iload 22, 2) := by decide +kernel
theorem dL_law_1986 : decode cL_law 1986 = .ok (.iload 20, 2) := by decide +kernel
theorem dL_law_1988 : decode cL_law 1988 = .ok (.if_icmp .ne 13, 3) := by decide +kernel
theorem dL_law_1991 : decode cL_law 1991 = .ok (.iload 24, 2) := by decide +kernel
theorem dL_law_1993 : decode cL_law 1993 = .ok (.iconst 1, 1) := by decide +kernel
theorem dL_law_1994 : decode cL_law 1994 = .ok (.iadd, 1) := by decide +kernel
theorem dL_law_1995 : decode cL_law 1995 = .ok (.iload 20, 2) := by decide +kernel
theorem dL_law_1997 : decode cL_law 1997 = .ok (.isub, 1) := by decide +kernel
theorem dL_law_1998 : decode cL_law 1998 = .ok (.goto 4, 3) := by decide +kernel
theorem dL_law_2001 : decode cL_law 2001 = .ok (.iconst (-1), 1) := by decide +kernel
theorem dL_law_2002 : decode cL_law 2002 = .ok (.istore 23, 2) := by decide +kernel
theorem dL_law_2004 : decode cL_law 2004 = .ok (.iinc 24 1, 3) := by decide +kernel
theorem dL_law_2007 : decode cL_law 2007 = .ok (.goto (-164), 3) := by decide +kernel
theorem dL_law_2010 : decode cL_law 2010 = .ok (.aload_n 1, 1) := by decide +kernel
theorem dL_law_2011 : decode cL_law 2011 = .ok (.iload 13, 2) := by decide +kernel
theorem dL_law_2013 : decode cL_law 2013 = .ok (.iload 19, 2) := by decide +kernel
theorem dL_law_2015 : decode cL_law 2015 = .ok (.iload 20, 2) := by decide +kernel
theorem dL_law_2017 : decode cL_law 2017 = .ok (.invokevirtual 122, 3) := by decide +kernel
theorem dL_law_2020 : decode cL_law 2020 = .ok (.iload 23, 2) := by decide +kernel
theorem dL_law_2022 : decode cL_law 2022 = .ok (.if_icmp .ne 16, 3) := by decide +kernel
theorem dL_law_2025 : decode cL_law 2025 = .ok (.aload_n 1, 1) := by decide +kernel
theorem dL_law_2026 : decode cL_law 2026 = .ok (.iload 13, 2) := by decide +kernel
theorem dL_law_2028 : decode cL_law 2028 = .ok (.iload 19, 2) := by decide +kernel
theorem dL_law_2030 : decode cL_law 2030 = .ok (.invokevirtual 125, 3) := by decide +kernel
theorem dL_law_2033 : decode cL_law 2033 = .ok (.iload 21, 2) := by decide +kernel
theorem dL_law_2035 : decode cL_law 2035 = .ok (.if_icmp .eq 5, 3) := by decide +kernel
theorem dL_law_2038 : decode cL_law 2038 = .ok (.iconst 0, 1) := by decide +kernel
theorem dL_law_2039 : decode cL_law 2039 = .ok (.ireturn, 1) := by decide +kernel
theorem dL_law_2040 : decode cL_law 2040 = .ok (.iconst 0, 1) := by decide +kernel
theorem dL_law_2041 : decode cL_law 2041 = .ok (.istore 19, 2) := by decide +kernel
theorem dL_law_2043 : decode cL_law 2043 = .ok (.iload 19, 2) := by decide +kernel
theorem dL_law_2045 : decode cL_law 2045 = .ok (.aload 8, 2) := by decide +kernel
theorem dL_law_2047 : decode cL_law 2047 = .ok (.iconst 3, 1) := by decide +kernel
theorem dL_law_2048 : decode cL_law 2048 = .ok (.iaload, 1) := by decide +kernel
theorem dL_law_2049 : decode cL_law 2049 = .ok (.if_icmp .ge 30, 3) := by decide +kernel
theorem dL_law_2052 : decode cL_law 2052 = .ok (.aload_n 1, 1) := by decide +kernel
theorem dL_law_2053 : decode cL_law 2053 = .ok (.iload 19, 2) := by decide +kernel
theorem dL_law_2055 : decode cL_law 2055 = .ok (.aload_n 2, 1) := by decide +kernel
theorem dL_law_2056 : decode cL_law 2056 = .ok (.aload_n 3, 1) := by decide +kernel
theorem dL_law_2057 : decode cL_law 2057 = .ok (.aload 4, 2) := by decide +kernel
theorem dL_law_2059 : decode cL_law 2059 = .ok (.aload 5, 2) := by decide +kernel
theorem dL_law_2061 : decode cL_law 2061 = .ok (.aload 6, 2) := by decide +kernel
theorem dL_law_2063 : decode cL_law 2063 = .ok (.aload 8, 2) := by decide +kernel
theorem dL_law_2065 : decode cL_law 2065 = .ok (.invokestatic 128, 3) := by decide +kernel
theorem dL_law_2068 : decode cL_law 2068 = .ok (.ifCond .ne 5, 3) := by decide +kernel
theorem dL_law_2071 : decode cL_law 2071 = .ok (.iconst 0, 1) := by decide +kernel
theorem dL_law_2072 : decode cL_law 2072 = .ok (.ireturn, 1) := by decide +kernel
theorem dL_law_2073 : decode cL_law 2073 = .ok (.iinc 19 1, 3) := by decide +kernel
theorem dL_law_2076 : decode cL_law 2076 = .ok (.goto (-33), 3) := by decide +kernel
theorem dL_law_2079 : decode cL_law 2079 = .ok (.aload_n 1, 1) := by decide +kernel
theorem dL_law_2080 : decode cL_law 2080 = .ok (.invokevirtual 132, 3) := by decide +kernel
theorem dL_law_2083 : decode cL_law 2083 = .ok (.aload 8, 2) := by decide +kernel
theorem dL_law_2085 : decode cL_law 2085 = .ok (.iconst 0, 1) := by decide +kernel
theorem dL_law_2086 : decode cL_law 2086 = .ok (.iaload, 1) := by decide +kernel
theorem dL_law_2087 : decode cL_law 2087 = .ok (.if_icmp .eq 5, 3) := by decide +kernel
theorem dL_law_2090 : decode cL_law 2090 = .ok (.iconst 0, 1) := by decide +kernel
theorem dL_law_2091 : decode cL_law 2091 = .ok (.ireturn, 1) := by decide +kernel
theorem dL_law_2092 : decode cL_law 2092 = .ok (.iinc 9 1, 3) := by decide +kernel
theorem dL_law_2095 : decode cL_law 2095 = .ok (.goto (-2038), 3) := by decide +kernel
theorem dL_law_2098 : decode cL_law 2098 = .ok (.iconst 1, 1) := by decide +kernel
theorem dL_law_2099 : decode cL_law 2099 = .ok (.ireturn, 1) := by decide +kernel
