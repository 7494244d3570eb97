/-! the law's instructions, 4 -/
def dTL_4_0 : List (Nat × (Instr × Nat)) := [(1897, (.invokevirtual 288, 3)), (1900, (.istore 7, 2)), (1902, (.aload_n 2, 1)), (1903, (.invokevirtual 144, 3)), (1906, (.iload 6, 2)), (1908, (.if_icmp .eq 5, 3)), (1913, (.iload 6, 2)), (1915, (.ifCond .ne 15, 3)), (1918, (.aload_n 3, 1)), (1919, (.iconst 0, 1)), (1920, (.laload, 1)), (1921, (.iload 7, 2)), (1923, (.i2l, 1)), (1924, (.lcmp, 1)), (1925, (.ifCond .eq 5, 3)), (1930, (.goto 978, 3)), (1933, (.aload_n 1, 1)), (1934, (.aload_n 0, 1)), (1935, (.iload 5, 2)), (1937, (.iconst 1, 1)), (1938, (.iadd, 1)), (1939, (.iaload, 1)), (1940, (.aload_n 0, 1)), (1941, (.iload 5, 2)), (1943, (.iconst 2, 1)), (1944, (.iadd, 1)), (1945, (.iaload, 1)), (1946, (.aload_n 0, 1)), (1947, (.iload 5, 2)), (1949, (.iconst 3, 1)), (1950, (.iadd, 1)), (1951, (.iaload, 1)), (1952, (.aload_n 3, 1)), (1953, (.invokestatic 289, 3)), (1956, (.istore 6, 2)), (1958, (.aload_n 2, 1)), (1959, (.aload_n 0, 1)), (1960, (.iload 5, 2)), (1962, (.iconst 1, 1)), (1963, (.iadd, 1)), (1964, (.iaload, 1)), (1965, (.aload_n 0, 1)), (1966, (.iload 5, 2)), (1968, (.iconst 2, 1))]
theorem dTB_4_0 : dTL_4_0.all (fun q => decide (decode code q.1 = .ok q.2)) = true := by decide +kernel
set_option maxRecDepth 20000 in
theorem dW_1897 : decode code 1897 = .ok (.invokevirtual 288, 3) := dT_of dTB_4_0 0 rfl
set_option maxRecDepth 20000 in
theorem dW_1900 : decode code 1900 = .ok (.istore 7, 2) := dT_of dTB_4_0 1 rfl
set_option maxRecDepth 20000 in
theorem dW_1902 : decode code 1902 = .ok (.aload_n 2, 1) := dT_of dTB_4_0 2 rfl
set_option maxRecDepth 20000 in
theorem dW_1903 : decode code 1903 = .ok (.invokevirtual 144, 3) := dT_of dTB_4_0 3 rfl
set_option maxRecDepth 20000 in
theorem dW_1906 : decode code 1906 = .ok (.iload 6, 2) := dT_of dTB_4_0 4 rfl
set_option maxRecDepth 20000 in
theorem dW_1908 : decode code 1908 = .ok (.if_icmp .eq 5, 3) := dT_of dTB_4_0 5 rfl
set_option maxRecDepth 20000 in
theorem dW_1913 : decode code 1913 = .ok (.iload 6, 2) := dT_of dTB_4_0 6 rfl
set_option maxRecDepth 20000 in
theorem dW_1915 : decode code 1915 = .ok (.ifCond .ne 15, 3) := dT_of dTB_4_0 7 rfl
set_option maxRecDepth 20000 in
theorem dW_1918 : decode code 1918 = .ok (.aload_n 3, 1) := dT_of dTB_4_0 8 rfl
set_option maxRecDepth 20000 in
theorem dW_1919 : decode code 1919 = .ok (.iconst 0, 1) := dT_of dTB_4_0 9 rfl
set_option maxRecDepth 20000 in
theorem dW_1920 : decode code 1920 = .ok (.laload, 1) := dT_of dTB_4_0 10 rfl
set_option maxRecDepth 20000 in
theorem dW_1921 : decode code 1921 = .ok (.iload 7, 2) := dT_of dTB_4_0 11 rfl
set_option maxRecDepth 20000 in
theorem dW_1923 : decode code 1923 = .ok (.i2l, 1) := dT_of dTB_4_0 12 rfl
set_option maxRecDepth 20000 in
theorem dW_1924 : decode code 1924 = .ok (.lcmp, 1) := dT_of dTB_4_0 13 rfl
set_option maxRecDepth 20000 in
theorem dW_1925 : decode code 1925 = .ok (.ifCond .eq 5, 3) := dT_of dTB_4_0 14 rfl
set_option maxRecDepth 20000 in
theorem dW_1930 : decode code 1930 = .ok (.goto 978, 3) := dT_of dTB_4_0 15 rfl
set_option maxRecDepth 20000 in
theorem dW_1933 : decode code 1933 = .ok (.aload_n 1, 1) := dT_of dTB_4_0 16 rfl
set_option maxRecDepth 20000 in
theorem dW_1934 : decode code 1934 = .ok (.aload_n 0, 1) := dT_of dTB_4_0 17 rfl
set_option maxRecDepth 20000 in
theorem dW_1935 : decode code 1935 = .ok (.iload 5, 2) := dT_of dTB_4_0 18 rfl
set_option maxRecDepth 20000 in
theorem dW_1937 : decode code 1937 = .ok (.iconst 1, 1) := dT_of dTB_4_0 19 rfl
set_option maxRecDepth 20000 in
theorem dW_1938 : decode code 1938 = .ok (.iadd, 1) := dT_of dTB_4_0 20 rfl
set_option maxRecDepth 20000 in
theorem dW_1939 : decode code 1939 = .ok (.iaload, 1) := dT_of dTB_4_0 21 rfl
set_option maxRecDepth 20000 in
theorem dW_1940 : decode code 1940 = .ok (.aload_n 0, 1) := dT_of dTB_4_0 22 rfl
set_option maxRecDepth 20000 in
theorem dW_1941 : decode code 1941 = .ok (.iload 5, 2) := dT_of dTB_4_0 23 rfl
set_option maxRecDepth 20000 in
theorem dW_1943 : decode code 1943 = .ok (.iconst 2, 1) := dT_of dTB_4_0 24 rfl
set_option maxRecDepth 20000 in
theorem dW_1944 : decode code 1944 = .ok (.iadd, 1) := dT_of dTB_4_0 25 rfl
set_option maxRecDepth 20000 in
theorem dW_1945 : decode code 1945 = .ok (.iaload, 1) := dT_of dTB_4_0 26 rfl
set_option maxRecDepth 20000 in
theorem dW_1946 : decode code 1946 = .ok (.aload_n 0, 1) := dT_of dTB_4_0 27 rfl
set_option maxRecDepth 20000 in
theorem dW_1947 : decode code 1947 = .ok (.iload 5, 2) := dT_of dTB_4_0 28 rfl
set_option maxRecDepth 20000 in
theorem dW_1949 : decode code 1949 = .ok (.iconst 3, 1) := dT_of dTB_4_0 29 rfl
set_option maxRecDepth 20000 in
theorem dW_1950 : decode code 1950 = .ok (.iadd, 1) := dT_of dTB_4_0 30 rfl
set_option maxRecDepth 20000 in
theorem dW_1951 : decode code 1951 = .ok (.iaload, 1) := dT_of dTB_4_0 31 rfl
set_option maxRecDepth 20000 in
theorem dW_1952 : decode code 1952 = .ok (.aload_n 3, 1) := dT_of dTB_4_0 32 rfl
set_option maxRecDepth 20000 in
theorem dW_1953 : decode code 1953 = .ok (.invokestatic 289, 3) := dT_of dTB_4_0 33 rfl
set_option maxRecDepth 20000 in
theorem dW_1956 : decode code 1956 = .ok (.istore 6, 2) := dT_of dTB_4_0 34 rfl
set_option maxRecDepth 20000 in
theorem dW_1958 : decode code 1958 = .ok (.aload_n 2, 1) := dT_of dTB_4_0 35 rfl
set_option maxRecDepth 20000 in
theorem dW_1959 : decode code 1959 = .ok (.aload_n 0, 1) := dT_of dTB_4_0 36 rfl
set_option maxRecDepth 20000 in
theorem dW_1960 : decode code 1960 = .ok (.iload 5, 2) := dT_of dTB_4_0 37 rfl
set_option maxRecDepth 20000 in
theorem dW_1962 : decode code 1962 = .ok (.iconst 1, 1) := dT_of dTB_4_0 38 rfl
set_option maxRecDepth 20000 in
theorem dW_1963 : decode code 1963 = .ok (.iadd, 1) := dT_of dTB_4_0 39 rfl
set_option maxRecDepth 20000 in
theorem dW_1964 : decode code 1964 = .ok (.iaload, 1) := dT_of dTB_4_0 40 rfl
set_option maxRecDepth 20000 in
theorem dW_1965 : decode code 1965 = .ok (.aload_n 0, 1) := dT_of dTB_4_0 41 rfl
set_option maxRecDepth 20000 in
theorem dW_1966 : decode code 1966 = .ok (.iload 5, 2) := dT_of dTB_4_0 42 rfl
set_option maxRecDepth 20000 in
theorem dW_1968 : decode code 1968 = .ok (.iconst 2, 1) := dT_of dTB_4_0 43 rfl
def dTL_4_1 : List (Nat × (Instr × Nat)) := [(1969, (.iadd, 1)), (1970, (.iaload, 1)), (1971, (.aload_n 0, 1)), (1972, (.iload 5, 2)), (1974, (.iconst 3, 1)), (1975, (.iadd, 1)), (1976, (.iaload, 1)), (1977, (.invokevirtual 291, 3)), (1980, (.istore 7, 2)), (1982, (.aload_n 2, 1)), (1983, (.invokevirtual 144, 3)), (1986, (.iload 6, 2)), (1988, (.if_icmp .eq 5, 3)), (1993, (.iload 6, 2)), (1995, (.ifCond .ne 15, 3)), (1998, (.aload_n 3, 1)), (1999, (.iconst 0, 1)), (2000, (.laload, 1)), (2001, (.iload 7, 2)), (2003, (.i2l, 1)), (2004, (.lcmp, 1)), (2005, (.ifCond .eq 5, 3)), (2010, (.goto 898, 3)), (2013, (.aload_n 1, 1)), (2014, (.aload_n 0, 1)), (2015, (.iload 5, 2)), (2017, (.iconst 1, 1)), (2018, (.iadd, 1)), (2019, (.iaload, 1)), (2020, (.aload_n 0, 1)), (2021, (.iload 5, 2)), (2023, (.iconst 2, 1)), (2024, (.iadd, 1)), (2025, (.iaload, 1)), (2026, (.aload_n 3, 1)), (2027, (.invokestatic 292, 3)), (2030, (.istore 6, 2)), (2032, (.aload_n 2, 1)), (2033, (.aload_n 0, 1)), (2034, (.iload 5, 2)), (2036, (.iconst 1, 1)), (2037, (.iadd, 1)), (2038, (.iaload, 1)), (2039, (.aload_n 0, 1))]
theorem dTB_4_1 : dTL_4_1.all (fun q => decide (decode code q.1 = .ok q.2)) = true := by decide +kernel
set_option maxRecDepth 20000 in
theorem dW_1969 : decode code 1969 = .ok (.iadd, 1) := dT_of dTB_4_1 0 rfl
set_option maxRecDepth 20000 in
theorem dW_1970 : decode code 1970 = .ok (.iaload, 1) := dT_of dTB_4_1 1 rfl
set_option maxRecDepth 20000 in
theorem dW_1971 : decode code 1971 = .ok (.aload_n 0, 1) := dT_of dTB_4_1 2 rfl
set_option maxRecDepth 20000 in
theorem dW_1972 : decode code 1972 = .ok (.iload 5, 2) := dT_of dTB_4_1 3 rfl
set_option maxRecDepth 20000 in
theorem dW_1974 : decode code 1974 = .ok (.iconst 3, 1) := dT_of dTB_4_1 4 rfl
set_option maxRecDepth 20000 in
theorem dW_1975 : decode code 1975 = .ok (.iadd, 1) := dT_of dTB_4_1 5 rfl
set_option maxRecDepth 20000 in
theorem dW_1976 : decode code 1976 = .ok (.iaload, 1) := dT_of dTB_4_1 6 rfl
set_option maxRecDepth 20000 in
theorem dW_1977 : decode code 1977 = .ok (.invokevirtual 291, 3) := dT_of dTB_4_1 7 rfl
set_option maxRecDepth 20000 in
theorem dW_1980 : decode code 1980 = .ok (.istore 7, 2) := dT_of dTB_4_1 8 rfl
set_option maxRecDepth 20000 in
theorem dW_1982 : decode code 1982 = .ok (.aload_n 2, 1) := dT_of dTB_4_1 9 rfl
set_option maxRecDepth 20000 in
theorem dW_1983 : decode code 1983 = .ok (.invokevirtual 144, 3) := dT_of dTB_4_1 10 rfl
set_option maxRecDepth 20000 in
theorem dW_1986 : decode code 1986 = .ok (.iload 6, 2) := dT_of dTB_4_1 11 rfl
set_option maxRecDepth 20000 in
theorem dW_1988 : decode code 1988 = .ok (.if_icmp .eq 5, 3) := dT_of dTB_4_1 12 rfl
set_option maxRecDepth 20000 in
theorem dW_1993 : decode code 1993 = .ok (.iload 6, 2) := dT_of dTB_4_1 13 rfl
set_option maxRecDepth 20000 in
theorem dW_1995 : decode code 1995 = .ok (.ifCond .ne 15, 3) := dT_of dTB_4_1 14 rfl
set_option maxRecDepth 20000 in
theorem dW_1998 : decode code 1998 = .ok (.aload_n 3, 1) := dT_of dTB_4_1 15 rfl
set_option maxRecDepth 20000 in
theorem dW_1999 : decode code 1999 = .ok (.iconst 0, 1) := dT_of dTB_4_1 16 rfl
set_option maxRecDepth 20000 in
theorem dW_2000 : decode code 2000 = .ok (.laload, 1) := dT_of dTB_4_1 17 rfl
set_option maxRecDepth 20000 in
theorem dW_2001 : decode code 2001 = .ok (.iload 7, 2) := dT_of dTB_4_1 18 rfl
set_option maxRecDepth 20000 in
theorem dW_2003 : decode code 2003 = .ok (.i2l, 1) := dT_of dTB_4_1 19 rfl
set_option maxRecDepth 20000 in
theorem dW_2004 : decode code 2004 = .ok (.lcmp, 1) := dT_of dTB_4_1 20 rfl
set_option maxRecDepth 20000 in
theorem dW_2005 : decode code 2005 = .ok (.ifCond .eq 5, 3) := dT_of dTB_4_1 21 rfl
set_option maxRecDepth 20000 in
theorem dW_2010 : decode code 2010 = .ok (.goto 898, 3) := dT_of dTB_4_1 22 rfl
set_option maxRecDepth 20000 in
theorem dW_2013 : decode code 2013 = .ok (.aload_n 1, 1) := dT_of dTB_4_1 23 rfl
set_option maxRecDepth 20000 in
theorem dW_2014 : decode code 2014 = .ok (.aload_n 0, 1) := dT_of dTB_4_1 24 rfl
set_option maxRecDepth 20000 in
theorem dW_2015 : decode code 2015 = .ok (.iload 5, 2) := dT_of dTB_4_1 25 rfl
set_option maxRecDepth 20000 in
theorem dW_2017 : decode code 2017 = .ok (.iconst 1, 1) := dT_of dTB_4_1 26 rfl
set_option maxRecDepth 20000 in
theorem dW_2018 : decode code 2018 = .ok (.iadd, 1) := dT_of dTB_4_1 27 rfl
set_option maxRecDepth 20000 in
theorem dW_2019 : decode code 2019 = .ok (.iaload, 1) := dT_of dTB_4_1 28 rfl
set_option maxRecDepth 20000 in
theorem dW_2020 : decode code 2020 = .ok (.aload_n 0, 1) := dT_of dTB_4_1 29 rfl
set_option maxRecDepth 20000 in
theorem dW_2021 : decode code 2021 = .ok (.iload 5, 2) := dT_of dTB_4_1 30 rfl
set_option maxRecDepth 20000 in
theorem dW_2023 : decode code 2023 = .ok (.iconst 2, 1) := dT_of dTB_4_1 31 rfl
set_option maxRecDepth 20000 in
theorem dW_2024 : decode code 2024 = .ok (.iadd, 1) := dT_of dTB_4_1 32 rfl
set_option maxRecDepth 20000 in
theorem dW_2025 : decode code 2025 = .ok (.iaload, 1) := dT_of dTB_4_1 33 rfl
set_option maxRecDepth 20000 in
theorem dW_2026 : decode code 2026 = .ok (.aload_n 3, 1) := dT_of dTB_4_1 34 rfl
set_option maxRecDepth 20000 in
theorem dW_2027 : decode code 2027 = .ok (.invokestatic 292, 3) := dT_of dTB_4_1 35 rfl
set_option maxRecDepth 20000 in
theorem dW_2030 : decode code 2030 = .ok (.istore 6, 2) := dT_of dTB_4_1 36 rfl
set_option maxRecDepth 20000 in
theorem dW_2032 : decode code 2032 = .ok (.aload_n 2, 1) := dT_of dTB_4_1 37 rfl
set_option maxRecDepth 20000 in
theorem dW_2033 : decode code 2033 = .ok (.aload_n 0, 1) := dT_of dTB_4_1 38 rfl
set_option maxRecDepth 20000 in
theorem dW_2034 : decode code 2034 = .ok (.iload 5, 2) := dT_of dTB_4_1 39 rfl
set_option maxRecDepth 20000 in
theorem dW_2036 : decode code 2036 = .ok (.iconst 1, 1) := dT_of dTB_4_1 40 rfl
set_option maxRecDepth 20000 in
theorem dW_2037 : decode code 2037 = .ok (.iadd, 1) := dT_of dTB_4_1 41 rfl
set_option maxRecDepth 20000 in
theorem dW_2038 : decode code 2038 = .ok (.iaload, 1) := dT_of dTB_4_1 42 rfl
set_option maxRecDepth 20000 in
theorem dW_2039 : decode code 2039 = .ok (.aload_n 0, 1) := dT_of dTB_4_1 43 rfl
def dTL_4_2 : List (Nat × (Instr × Nat)) := [(2040, (.iload 5, 2)), (2042, (.iconst 2, 1)), (2043, (.iadd, 1)), (2044, (.iaload, 1)), (2045, (.invokevirtual 294, 3)), (2048, (.istore 7, 2)), (2050, (.aload_n 2, 1)), (2051, (.invokevirtual 144, 3)), (2054, (.iload 6, 2)), (2056, (.if_icmp .eq 5, 3)), (2061, (.iload 6, 2)), (2063, (.ifCond .ne 15, 3)), (2066, (.aload_n 3, 1)), (2067, (.iconst 0, 1)), (2068, (.laload, 1)), (2069, (.iload 7, 2)), (2071, (.i2l, 1)), (2072, (.lcmp, 1)), (2073, (.ifCond .eq 5, 3)), (2078, (.goto 830, 3)), (2081, (.aload_n 1, 1)), (2082, (.aload_n 0, 1)), (2083, (.iload 5, 2)), (2085, (.iconst 1, 1)), (2086, (.iadd, 1)), (2087, (.iaload, 1)), (2088, (.aload_n 0, 1)), (2089, (.iload 5, 2)), (2091, (.iconst 2, 1)), (2092, (.iadd, 1)), (2093, (.iaload, 1)), (2094, (.aload_n 3, 1)), (2095, (.invokestatic 295, 3)), (2098, (.istore 6, 2)), (2100, (.aload_n 2, 1)), (2101, (.aload_n 0, 1)), (2102, (.iload 5, 2)), (2104, (.iconst 1, 1)), (2105, (.iadd, 1)), (2106, (.iaload, 1)), (2107, (.aload_n 0, 1)), (2108, (.iload 5, 2)), (2110, (.iconst 2, 1)), (2111, (.iadd, 1))]
theorem dTB_4_2 : dTL_4_2.all (fun q => decide (decode code q.1 = .ok q.2)) = true := by decide +kernel
set_option maxRecDepth 20000 in
theorem dW_2040 : decode code 2040 = .ok (.iload 5, 2) := dT_of dTB_4_2 0 rfl
set_option maxRecDepth 20000 in
theorem dW_2042 : decode code 2042 = .ok (.iconst 2, 1) := dT_of dTB_4_2 1 rfl
set_option maxRecDepth 20000 in
theorem dW_2043 : decode code 2043 = .ok (.iadd, 1) := dT_of dTB_4_2 2 rfl
set_option maxRecDepth 20000 in
theorem dW_2044 : decode code 2044 = .ok (.iaload, 1) := dT_of dTB_4_2 3 rfl
set_option maxRecDepth 20000 in
theorem dW_2045 : decode code 2045 = .ok (.invokevirtual 294, 3) := dT_of dTB_4_2 4 rfl
set_option maxRecDepth 20000 in
theorem dW_2048 : decode code 2048 = .ok (.istore 7, 2) := dT_of dTB_4_2 5 rfl
set_option maxRecDepth 20000 in
theorem dW_2050 : decode code 2050 = .ok (.aload_n 2, 1) := dT_of dTB_4_2 6 rfl
set_option maxRecDepth 20000 in
theorem dW_2051 : decode code 2051 = .ok (.invokevirtual 144, 3) := dT_of dTB_4_2 7 rfl
set_option maxRecDepth 20000 in
theorem dW_2054 : decode code 2054 = .ok (.iload 6, 2) := dT_of dTB_4_2 8 rfl
set_option maxRecDepth 20000 in
theorem dW_2056 : decode code 2056 = .ok (.if_icmp .eq 5, 3) := dT_of dTB_4_2 9 rfl
set_option maxRecDepth 20000 in
theorem dW_2061 : decode code 2061 = .ok (.iload 6, 2) := dT_of dTB_4_2 10 rfl
set_option maxRecDepth 20000 in
theorem dW_2063 : decode code 2063 = .ok (.ifCond .ne 15, 3) := dT_of dTB_4_2 11 rfl
set_option maxRecDepth 20000 in
theorem dW_2066 : decode code 2066 = .ok (.aload_n 3, 1) := dT_of dTB_4_2 12 rfl
set_option maxRecDepth 20000 in
theorem dW_2067 : decode code 2067 = .ok (.iconst 0, 1) := dT_of dTB_4_2 13 rfl
set_option maxRecDepth 20000 in
theorem dW_2068 : decode code 2068 = .ok (.laload, 1) := dT_of dTB_4_2 14 rfl
set_option maxRecDepth 20000 in
theorem dW_2069 : decode code 2069 = .ok (.iload 7, 2) := dT_of dTB_4_2 15 rfl
set_option maxRecDepth 20000 in
theorem dW_2071 : decode code 2071 = .ok (.i2l, 1) := dT_of dTB_4_2 16 rfl
set_option maxRecDepth 20000 in
theorem dW_2072 : decode code 2072 = .ok (.lcmp, 1) := dT_of dTB_4_2 17 rfl
set_option maxRecDepth 20000 in
theorem dW_2073 : decode code 2073 = .ok (.ifCond .eq 5, 3) := dT_of dTB_4_2 18 rfl
set_option maxRecDepth 20000 in
theorem dW_2078 : decode code 2078 = .ok (.goto 830, 3) := dT_of dTB_4_2 19 rfl
set_option maxRecDepth 20000 in
theorem dW_2081 : decode code 2081 = .ok (.aload_n 1, 1) := dT_of dTB_4_2 20 rfl
set_option maxRecDepth 20000 in
theorem dW_2082 : decode code 2082 = .ok (.aload_n 0, 1) := dT_of dTB_4_2 21 rfl
set_option maxRecDepth 20000 in
theorem dW_2083 : decode code 2083 = .ok (.iload 5, 2) := dT_of dTB_4_2 22 rfl
set_option maxRecDepth 20000 in
theorem dW_2085 : decode code 2085 = .ok (.iconst 1, 1) := dT_of dTB_4_2 23 rfl
set_option maxRecDepth 20000 in
theorem dW_2086 : decode code 2086 = .ok (.iadd, 1) := dT_of dTB_4_2 24 rfl
set_option maxRecDepth 20000 in
theorem dW_2087 : decode code 2087 = .ok (.iaload, 1) := dT_of dTB_4_2 25 rfl
set_option maxRecDepth 20000 in
theorem dW_2088 : decode code 2088 = .ok (.aload_n 0, 1) := dT_of dTB_4_2 26 rfl
set_option maxRecDepth 20000 in
theorem dW_2089 : decode code 2089 = .ok (.iload 5, 2) := dT_of dTB_4_2 27 rfl
set_option maxRecDepth 20000 in
theorem dW_2091 : decode code 2091 = .ok (.iconst 2, 1) := dT_of dTB_4_2 28 rfl
set_option maxRecDepth 20000 in
theorem dW_2092 : decode code 2092 = .ok (.iadd, 1) := dT_of dTB_4_2 29 rfl
set_option maxRecDepth 20000 in
theorem dW_2093 : decode code 2093 = .ok (.iaload, 1) := dT_of dTB_4_2 30 rfl
set_option maxRecDepth 20000 in
theorem dW_2094 : decode code 2094 = .ok (.aload_n 3, 1) := dT_of dTB_4_2 31 rfl
set_option maxRecDepth 20000 in
theorem dW_2095 : decode code 2095 = .ok (.invokestatic 295, 3) := dT_of dTB_4_2 32 rfl
set_option maxRecDepth 20000 in
theorem dW_2098 : decode code 2098 = .ok (.istore 6, 2) := dT_of dTB_4_2 33 rfl
set_option maxRecDepth 20000 in
theorem dW_2100 : decode code 2100 = .ok (.aload_n 2, 1) := dT_of dTB_4_2 34 rfl
set_option maxRecDepth 20000 in
theorem dW_2101 : decode code 2101 = .ok (.aload_n 0, 1) := dT_of dTB_4_2 35 rfl
set_option maxRecDepth 20000 in
theorem dW_2102 : decode code 2102 = .ok (.iload 5, 2) := dT_of dTB_4_2 36 rfl
set_option maxRecDepth 20000 in
theorem dW_2104 : decode code 2104 = .ok (.iconst 1, 1) := dT_of dTB_4_2 37 rfl
set_option maxRecDepth 20000 in
theorem dW_2105 : decode code 2105 = .ok (.iadd, 1) := dT_of dTB_4_2 38 rfl
set_option maxRecDepth 20000 in
theorem dW_2106 : decode code 2106 = .ok (.iaload, 1) := dT_of dTB_4_2 39 rfl
set_option maxRecDepth 20000 in
theorem dW_2107 : decode code 2107 = .ok (.aload_n 0, 1) := dT_of dTB_4_2 40 rfl
set_option maxRecDepth 20000 in
theorem dW_2108 : decode code 2108 = .ok (.iload 5, 2) := dT_of dTB_4_2 41 rfl
set_option maxRecDepth 20000 in
theorem dW_2110 : decode code 2110 = .ok (.iconst 2, 1) := dT_of dTB_4_2 42 rfl
set_option maxRecDepth 20000 in
theorem dW_2111 : decode code 2111 = .ok (.iadd, 1) := dT_of dTB_4_2 43 rfl
def dTL_4_3 : List (Nat × (Instr × Nat)) := [(2112, (.iaload, 1)), (2113, (.invokevirtual 297, 3)), (2116, (.istore 7, 2)), (2118, (.aload_n 2, 1)), (2119, (.invokevirtual 144, 3)), (2122, (.iload 6, 2)), (2124, (.if_icmp .eq 5, 3)), (2129, (.iload 6, 2)), (2131, (.ifCond .ne 15, 3)), (2134, (.aload_n 3, 1)), (2135, (.iconst 0, 1)), (2136, (.laload, 1)), (2137, (.iload 7, 2)), (2139, (.i2l, 1)), (2140, (.lcmp, 1)), (2141, (.ifCond .eq 5, 3)), (2146, (.goto 762, 3)), (2149, (.aload_n 1, 1)), (2150, (.aload_n 0, 1)), (2151, (.iload 5, 2)), (2153, (.iconst 1, 1)), (2154, (.iadd, 1)), (2155, (.iaload, 1)), (2156, (.aload_n 0, 1)), (2157, (.iload 5, 2)), (2159, (.iconst 2, 1)), (2160, (.iadd, 1)), (2161, (.iaload, 1)), (2162, (.aload_n 3, 1)), (2163, (.invokestatic 298, 3)), (2166, (.istore 6, 2)), (2168, (.aload_n 2, 1)), (2169, (.aload_n 0, 1)), (2170, (.iload 5, 2)), (2172, (.iconst 1, 1)), (2173, (.iadd, 1)), (2174, (.iaload, 1)), (2175, (.aload_n 0, 1)), (2176, (.iload 5, 2)), (2178, (.iconst 2, 1)), (2179, (.iadd, 1)), (2180, (.iaload, 1)), (2181, (.invokevirtual 300, 3)), (2184, (.istore 7, 2))]
theorem dTB_4_3 : dTL_4_3.all (fun q => decide (decode code q.1 = .ok q.2)) = true := by decide +kernel
set_option maxRecDepth 20000 in
theorem dW_2112 : decode code 2112 = .ok (.iaload, 1) := dT_of dTB_4_3 0 rfl
set_option maxRecDepth 20000 in
theorem dW_2113 : decode code 2113 = .ok (.invokevirtual 297, 3) := dT_of dTB_4_3 1 rfl
set_option maxRecDepth 20000 in
theorem dW_2116 : decode code 2116 = .ok (.istore 7, 2) := dT_of dTB_4_3 2 rfl
set_option maxRecDepth 20000 in
theorem dW_2118 : decode code 2118 = .ok (.aload_n 2, 1) := dT_of dTB_4_3 3 rfl
set_option maxRecDepth 20000 in
theorem dW_2119 : decode code 2119 = .ok (.invokevirtual 144, 3) := dT_of dTB_4_3 4 rfl
set_option maxRecDepth 20000 in
theorem dW_2122 : decode code 2122 = .ok (.iload 6, 2) := dT_of dTB_4_3 5 rfl
set_option maxRecDepth 20000 in
theorem dW_2124 : decode code 2124 = .ok (.if_icmp .eq 5, 3) := dT_of dTB_4_3 6 rfl
set_option maxRecDepth 20000 in
theorem dW_2129 : decode code 2129 = .ok (.iload 6, 2) := dT_of dTB_4_3 7 rfl
set_option maxRecDepth 20000 in
theorem dW_2131 : decode code 2131 = .ok (.ifCond .ne 15, 3) := dT_of dTB_4_3 8 rfl
set_option maxRecDepth 20000 in
theorem dW_2134 : decode code 2134 = .ok (.aload_n 3, 1) := dT_of dTB_4_3 9 rfl
set_option maxRecDepth 20000 in
theorem dW_2135 : decode code 2135 = .ok (.iconst 0, 1) := dT_of dTB_4_3 10 rfl
set_option maxRecDepth 20000 in
theorem dW_2136 : decode code 2136 = .ok (.laload, 1) := dT_of dTB_4_3 11 rfl
set_option maxRecDepth 20000 in
theorem dW_2137 : decode code 2137 = .ok (.iload 7, 2) := dT_of dTB_4_3 12 rfl
set_option maxRecDepth 20000 in
theorem dW_2139 : decode code 2139 = .ok (.i2l, 1) := dT_of dTB_4_3 13 rfl
set_option maxRecDepth 20000 in
theorem dW_2140 : decode code 2140 = .ok (.lcmp, 1) := dT_of dTB_4_3 14 rfl
set_option maxRecDepth 20000 in
theorem dW_2141 : decode code 2141 = .ok (.ifCond .eq 5, 3) := dT_of dTB_4_3 15 rfl
set_option maxRecDepth 20000 in
theorem dW_2146 : decode code 2146 = .ok (.goto 762, 3) := dT_of dTB_4_3 16 rfl
set_option maxRecDepth 20000 in
theorem dW_2149 : decode code 2149 = .ok (.aload_n 1, 1) := dT_of dTB_4_3 17 rfl
set_option maxRecDepth 20000 in
theorem dW_2150 : decode code 2150 = .ok (.aload_n 0, 1) := dT_of dTB_4_3 18 rfl
set_option maxRecDepth 20000 in
theorem dW_2151 : decode code 2151 = .ok (.iload 5, 2) := dT_of dTB_4_3 19 rfl
set_option maxRecDepth 20000 in
theorem dW_2153 : decode code 2153 = .ok (.iconst 1, 1) := dT_of dTB_4_3 20 rfl
set_option maxRecDepth 20000 in
theorem dW_2154 : decode code 2154 = .ok (.iadd, 1) := dT_of dTB_4_3 21 rfl
set_option maxRecDepth 20000 in
theorem dW_2155 : decode code 2155 = .ok (.iaload, 1) := dT_of dTB_4_3 22 rfl
set_option maxRecDepth 20000 in
theorem dW_2156 : decode code 2156 = .ok (.aload_n 0, 1) := dT_of dTB_4_3 23 rfl
set_option maxRecDepth 20000 in
theorem dW_2157 : decode code 2157 = .ok (.iload 5, 2) := dT_of dTB_4_3 24 rfl
set_option maxRecDepth 20000 in
theorem dW_2159 : decode code 2159 = .ok (.iconst 2, 1) := dT_of dTB_4_3 25 rfl
set_option maxRecDepth 20000 in
theorem dW_2160 : decode code 2160 = .ok (.iadd, 1) := dT_of dTB_4_3 26 rfl
set_option maxRecDepth 20000 in
theorem dW_2161 : decode code 2161 = .ok (.iaload, 1) := dT_of dTB_4_3 27 rfl
set_option maxRecDepth 20000 in
theorem dW_2162 : decode code 2162 = .ok (.aload_n 3, 1) := dT_of dTB_4_3 28 rfl
set_option maxRecDepth 20000 in
theorem dW_2163 : decode code 2163 = .ok (.invokestatic 298, 3) := dT_of dTB_4_3 29 rfl
set_option maxRecDepth 20000 in
theorem dW_2166 : decode code 2166 = .ok (.istore 6, 2) := dT_of dTB_4_3 30 rfl
set_option maxRecDepth 20000 in
theorem dW_2168 : decode code 2168 = .ok (.aload_n 2, 1) := dT_of dTB_4_3 31 rfl
set_option maxRecDepth 20000 in
theorem dW_2169 : decode code 2169 = .ok (.aload_n 0, 1) := dT_of dTB_4_3 32 rfl
set_option maxRecDepth 20000 in
theorem dW_2170 : decode code 2170 = .ok (.iload 5, 2) := dT_of dTB_4_3 33 rfl
set_option maxRecDepth 20000 in
theorem dW_2172 : decode code 2172 = .ok (.iconst 1, 1) := dT_of dTB_4_3 34 rfl
set_option maxRecDepth 20000 in
theorem dW_2173 : decode code 2173 = .ok (.iadd, 1) := dT_of dTB_4_3 35 rfl
set_option maxRecDepth 20000 in
theorem dW_2174 : decode code 2174 = .ok (.iaload, 1) := dT_of dTB_4_3 36 rfl
set_option maxRecDepth 20000 in
theorem dW_2175 : decode code 2175 = .ok (.aload_n 0, 1) := dT_of dTB_4_3 37 rfl
set_option maxRecDepth 20000 in
theorem dW_2176 : decode code 2176 = .ok (.iload 5, 2) := dT_of dTB_4_3 38 rfl
set_option maxRecDepth 20000 in
theorem dW_2178 : decode code 2178 = .ok (.iconst 2, 1) := dT_of dTB_4_3 39 rfl
set_option maxRecDepth 20000 in
theorem dW_2179 : decode code 2179 = .ok (.iadd, 1) := dT_of dTB_4_3 40 rfl
set_option maxRecDepth 20000 in
theorem dW_2180 : decode code 2180 = .ok (.iaload, 1) := dT_of dTB_4_3 41 rfl
set_option maxRecDepth 20000 in
theorem dW_2181 : decode code 2181 = .ok (.invokevirtual 300, 3) := dT_of dTB_4_3 42 rfl
set_option maxRecDepth 20000 in
theorem dW_2184 : decode code 2184 = .ok (.istore 7, 2) := dT_of dTB_4_3 43 rfl
def dTL_4_4 : List (Nat × (Instr × Nat)) := [(2186, (.aload_n 2, 1)), (2187, (.invokevirtual 144, 3)), (2190, (.iload 6, 2)), (2192, (.if_icmp .eq 5, 3)), (2197, (.iload 6, 2)), (2199, (.ifCond .ne 15, 3)), (2202, (.aload_n 3, 1)), (2203, (.iconst 0, 1)), (2204, (.laload, 1)), (2205, (.iload 7, 2)), (2207, (.i2l, 1)), (2208, (.lcmp, 1)), (2209, (.ifCond .eq 5, 3)), (2214, (.goto 694, 3)), (2217, (.aload_n 1, 1)), (2218, (.aload_n 0, 1)), (2219, (.iload 5, 2)), (2221, (.iconst 1, 1)), (2222, (.iadd, 1)), (2223, (.iaload, 1)), (2224, (.aload_n 3, 1)), (2225, (.invokestatic 301, 3)), (2228, (.istore 6, 2)), (2230, (.aload_n 2, 1)), (2231, (.aload_n 0, 1)), (2232, (.iload 5, 2)), (2234, (.iconst 1, 1)), (2235, (.iadd, 1)), (2236, (.iaload, 1)), (2237, (.invokevirtual 303, 3)), (2240, (.istore 7, 2)), (2242, (.aload_n 2, 1)), (2243, (.invokevirtual 144, 3)), (2246, (.iload 6, 2)), (2248, (.if_icmp .eq 5, 3)), (2253, (.iload 6, 2)), (2255, (.ifCond .ne 15, 3)), (2258, (.aload_n 3, 1)), (2259, (.iconst 0, 1)), (2260, (.laload, 1)), (2261, (.iload 7, 2)), (2263, (.i2l, 1)), (2264, (.lcmp, 1)), (2265, (.ifCond .eq 5, 3))]
theorem dTB_4_4 : dTL_4_4.all (fun q => decide (decode code q.1 = .ok q.2)) = true := by decide +kernel
set_option maxRecDepth 20000 in
theorem dW_2186 : decode code 2186 = .ok (.aload_n 2, 1) := dT_of dTB_4_4 0 rfl
set_option maxRecDepth 20000 in
theorem dW_2187 : decode code 2187 = .ok (.invokevirtual 144, 3) := dT_of dTB_4_4 1 rfl
set_option maxRecDepth 20000 in
theorem dW_2190 : decode code 2190 = .ok (.iload 6, 2) := dT_of dTB_4_4 2 rfl
set_option maxRecDepth 20000 in
theorem dW_2192 : decode code 2192 = .ok (.if_icmp .eq 5, 3) := dT_of dTB_4_4 3 rfl
set_option maxRecDepth 20000 in
theorem dW_2197 : decode code 2197 = .ok (.iload 6, 2) := dT_of dTB_4_4 4 rfl
set_option maxRecDepth 20000 in
theorem dW_2199 : decode code 2199 = .ok (.ifCond .ne 15, 3) := dT_of dTB_4_4 5 rfl
set_option maxRecDepth 20000 in
theorem dW_2202 : decode code 2202 = .ok (.aload_n 3, 1) := dT_of dTB_4_4 6 rfl
set_option maxRecDepth 20000 in
theorem dW_2203 : decode code 2203 = .ok (.iconst 0, 1) := dT_of dTB_4_4 7 rfl
set_option maxRecDepth 20000 in
theorem dW_2204 : decode code 2204 = .ok (.laload, 1) := dT_of dTB_4_4 8 rfl
set_option maxRecDepth 20000 in
theorem dW_2205 : decode code 2205 = .ok (.iload 7, 2) := dT_of dTB_4_4 9 rfl
set_option maxRecDepth 20000 in
theorem dW_2207 : decode code 2207 = .ok (.i2l, 1) := dT_of dTB_4_4 10 rfl
set_option maxRecDepth 20000 in
theorem dW_2208 : decode code 2208 = .ok (.lcmp, 1) := dT_of dTB_4_4 11 rfl
set_option maxRecDepth 20000 in
theorem dW_2209 : decode code 2209 = .ok (.ifCond .eq 5, 3) := dT_of dTB_4_4 12 rfl
set_option maxRecDepth 20000 in
theorem dW_2214 : decode code 2214 = .ok (.goto 694, 3) := dT_of dTB_4_4 13 rfl
set_option maxRecDepth 20000 in
theorem dW_2217 : decode code 2217 = .ok (.aload_n 1, 1) := dT_of dTB_4_4 14 rfl
set_option maxRecDepth 20000 in
theorem dW_2218 : decode code 2218 = .ok (.aload_n 0, 1) := dT_of dTB_4_4 15 rfl
set_option maxRecDepth 20000 in
theorem dW_2219 : decode code 2219 = .ok (.iload 5, 2) := dT_of dTB_4_4 16 rfl
set_option maxRecDepth 20000 in
theorem dW_2221 : decode code 2221 = .ok (.iconst 1, 1) := dT_of dTB_4_4 17 rfl
set_option maxRecDepth 20000 in
theorem dW_2222 : decode code 2222 = .ok (.iadd, 1) := dT_of dTB_4_4 18 rfl
set_option maxRecDepth 20000 in
theorem dW_2223 : decode code 2223 = .ok (.iaload, 1) := dT_of dTB_4_4 19 rfl
set_option maxRecDepth 20000 in
theorem dW_2224 : decode code 2224 = .ok (.aload_n 3, 1) := dT_of dTB_4_4 20 rfl
set_option maxRecDepth 20000 in
theorem dW_2225 : decode code 2225 = .ok (.invokestatic 301, 3) := dT_of dTB_4_4 21 rfl
set_option maxRecDepth 20000 in
theorem dW_2228 : decode code 2228 = .ok (.istore 6, 2) := dT_of dTB_4_4 22 rfl
set_option maxRecDepth 20000 in
theorem dW_2230 : decode code 2230 = .ok (.aload_n 2, 1) := dT_of dTB_4_4 23 rfl
set_option maxRecDepth 20000 in
theorem dW_2231 : decode code 2231 = .ok (.aload_n 0, 1) := dT_of dTB_4_4 24 rfl
set_option maxRecDepth 20000 in
theorem dW_2232 : decode code 2232 = .ok (.iload 5, 2) := dT_of dTB_4_4 25 rfl
set_option maxRecDepth 20000 in
theorem dW_2234 : decode code 2234 = .ok (.iconst 1, 1) := dT_of dTB_4_4 26 rfl
set_option maxRecDepth 20000 in
theorem dW_2235 : decode code 2235 = .ok (.iadd, 1) := dT_of dTB_4_4 27 rfl
set_option maxRecDepth 20000 in
theorem dW_2236 : decode code 2236 = .ok (.iaload, 1) := dT_of dTB_4_4 28 rfl
set_option maxRecDepth 20000 in
theorem dW_2237 : decode code 2237 = .ok (.invokevirtual 303, 3) := dT_of dTB_4_4 29 rfl
set_option maxRecDepth 20000 in
theorem dW_2240 : decode code 2240 = .ok (.istore 7, 2) := dT_of dTB_4_4 30 rfl
set_option maxRecDepth 20000 in
theorem dW_2242 : decode code 2242 = .ok (.aload_n 2, 1) := dT_of dTB_4_4 31 rfl
set_option maxRecDepth 20000 in
theorem dW_2243 : decode code 2243 = .ok (.invokevirtual 144, 3) := dT_of dTB_4_4 32 rfl
set_option maxRecDepth 20000 in
theorem dW_2246 : decode code 2246 = .ok (.iload 6, 2) := dT_of dTB_4_4 33 rfl
set_option maxRecDepth 20000 in
theorem dW_2248 : decode code 2248 = .ok (.if_icmp .eq 5, 3) := dT_of dTB_4_4 34 rfl
set_option maxRecDepth 20000 in
theorem dW_2253 : decode code 2253 = .ok (.iload 6, 2) := dT_of dTB_4_4 35 rfl
set_option maxRecDepth 20000 in
theorem dW_2255 : decode code 2255 = .ok (.ifCond .ne 15, 3) := dT_of dTB_4_4 36 rfl
set_option maxRecDepth 20000 in
theorem dW_2258 : decode code 2258 = .ok (.aload_n 3, 1) := dT_of dTB_4_4 37 rfl
set_option maxRecDepth 20000 in
theorem dW_2259 : decode code 2259 = .ok (.iconst 0, 1) := dT_of dTB_4_4 38 rfl
set_option maxRecDepth 20000 in
theorem dW_2260 : decode code 2260 = .ok (.laload, 1) := dT_of dTB_4_4 39 rfl
set_option maxRecDepth 20000 in
theorem dW_2261 : decode code 2261 = .ok (.iload 7, 2) := dT_of dTB_4_4 40 rfl
set_option maxRecDepth 20000 in
theorem dW_2263 : decode code 2263 = .ok (.i2l, 1) := dT_of dTB_4_4 41 rfl
set_option maxRecDepth 20000 in
theorem dW_2264 : decode code 2264 = .ok (.lcmp, 1) := dT_of dTB_4_4 42 rfl
set_option maxRecDepth 20000 in
theorem dW_2265 : decode code 2265 = .ok (.ifCond .eq 5, 3) := dT_of dTB_4_4 43 rfl
