/-! the law's instructions, 4 -/
theorem dW_1897 : decode code 1897 = .ok (.invokevirtual 288, 3) := by decide +kernel
theorem dW_1900 : decode code 1900 = .ok (.istore 7, 2) := by decide +kernel
theorem dW_1902 : decode code 1902 = .ok (.aload_n 2, 1) := by decide +kernel
theorem dW_1903 : decode code 1903 = .ok (.invokevirtual 144, 3) := by decide +kernel
theorem dW_1906 : decode code 1906 = .ok (.iload 6, 2) := by decide +kernel
theorem dW_1908 : decode code 1908 = .ok (.if_icmp .eq 5, 3) := by decide +kernel
theorem dW_1913 : decode code 1913 = .ok (.iload 6, 2) := by decide +kernel
theorem dW_1915 : decode code 1915 = .ok (.ifCond .ne 15, 3) := by decide +kernel
theorem dW_1918 : decode code 1918 = .ok (.aload_n 3, 1) := by decide +kernel
theorem dW_1919 : decode code 1919 = .ok (.iconst 0, 1) := by decide +kernel
theorem dW_1920 : decode code 1920 = .ok (.laload, 1) := by decide +kernel
theorem dW_1921 : decode code 1921 = .ok (.iload 7, 2) := by decide +kernel
theorem dW_1923 : decode code 1923 = .ok (.i2l, 1) := by decide +kernel
theorem dW_1924 : decode code 1924 = .ok (.lcmp, 1) := by decide +kernel
theorem dW_1925 : decode code 1925 = .ok (.ifCond .eq 5, 3) := by decide +kernel
theorem dW_1930 : decode code 1930 = .ok (.goto 978, 3) := by decide +kernel
theorem dW_1933 : decode code 1933 = .ok (.aload_n 1, 1) := by decide +kernel
theorem dW_1934 : decode code 1934 = .ok (.aload_n 0, 1) := by decide +kernel
theorem dW_1935 : decode code 1935 = .ok (.iload 5, 2) := by decide +kernel
theorem dW_1937 : decode code 1937 = .ok (.iconst 1, 1) := by decide +kernel
theorem dW_1938 : decode code 1938 = .ok (.iadd, 1) := by decide +kernel
theorem dW_1939 : decode code 1939 = .ok (.iaload, 1) := by decide +kernel
theorem dW_1940 : decode code 1940 = .ok (.aload_n 0, 1) := by decide +kernel
theorem dW_1941 : decode code 1941 = .ok (.iload 5, 2) := by decide +kernel
theorem dW_1943 : decode code 1943 = .ok (.iconst 2, 1) := by decide +kernel
theorem dW_1944 : decode code 1944 = .ok (.iadd, 1) := by decide +kernel
theorem dW_1945 : decode code 1945 = .ok (.iaload, 1) := by decide +kernel
theorem dW_1946 : decode code 1946 = .ok (.aload_n 0, 1) := by decide +kernel
theorem dW_1947 : decode code 1947 = .ok (.iload 5, 2) := by decide +kernel
theorem dW_1949 : decode code 1949 = .ok (.iconst 3, 1) := by decide +kernel
theorem dW_1950 : decode code 1950 = .ok (.iadd, 1) := by decide +kernel
theorem dW_1951 : decode code 1951 = .ok (.iaload, 1) := by decide +kernel
theorem dW_1952 : decode code 1952 = .ok (.aload_n 3, 1) := by decide +kernel
theorem dW_1953 : decode code 1953 = .ok (.invokestatic 289, 3) := by decide +kernel
theorem dW_1956 : decode code 1956 = .ok (.istore 6, 2) := by decide +kernel
theorem dW_1958 : decode code 1958 = .ok (.aload_n 2, 1) := by decide +kernel
theorem dW_1959 : decode code 1959 = .ok (.aload_n 0, 1) := by decide +kernel
theorem dW_1960 : decode code 1960 = .ok (.iload 5, 2) := by decide +kernel
theorem dW_1962 : decode code 1962 = .ok (.iconst 1, 1) := by decide +kernel
theorem dW_1963 : decode code 1963 = .ok (.iadd, 1) := by decide +kernel
theorem dW_1964 : decode code 1964 = .ok (.iaload, 1) := by decide +kernel
theorem dW_1965 : decode code 1965 = .ok (.aload_n 0, 1) := by decide +kernel
theorem dW_1966 : decode code 1966 = .ok (.iload 5, 2) := by decide +kernel
theorem dW_1968 : decode code 1968 = .ok (.iconst 2, 1) := by decide +kernel
theorem dW_1969 : decode code 1969 = .ok (.iadd, 1) := by decide +kernel
theorem dW_1970 : decode code 1970 = .ok (.iaload, 1) := by decide +kernel
theorem dW_1971 : decode code 1971 = .ok (.aload_n 0, 1) := by decide +kernel
theorem dW_1972 : decode code 1972 = .ok (.iload 5, 2) := by decide +kernel
theorem dW_1974 : decode code 1974 = .ok (.iconst 3, 1) := by decide +kernel
theorem dW_1975 : decode code 1975 = .ok (.iadd, 1) := by decide +kernel
theorem dW_1976 : decode code 1976 = .ok (.iaload, 1) := by decide +kernel
theorem dW_1977 : decode code 1977 = .ok (.invokevirtual 291, 3) := by decide +kernel
theorem dW_1980 : decode code 1980 = .ok (.istore 7, 2) := by decide +kernel
theorem dW_1982 : decode code 1982 = .ok (.aload_n 2, 1) := by decide +kernel
theorem dW_1983 : decode code 1983 = .ok (.invokevirtual 144, 3) := by decide +kernel
theorem dW_1986 : decode code 1986 = .ok (.iload 6, 2) := by decide +kernel
theorem dW_1988 : decode code 1988 = .ok (.if_icmp .eq 5, 3) := by decide +kernel
theorem dW_1993 : decode code 1993 = .ok (.iload 6, 2) := by decide +kernel
theorem dW_1995 : decode code 1995 = .ok (.ifCond .ne 15, 3) := by decide +kernel
theorem dW_1998 : decode code 1998 = .ok (.aload_n 3, 1) := by decide +kernel
theorem dW_1999 : decode code 1999 = .ok (.iconst 0, 1) := by decide +kernel
theorem dW_2000 : decode code 2000 = .ok (.laload, 1) := by decide +kernel
theorem dW_2001 : decode code 2001 = .ok (.iload 7, 2) := by decide +kernel
theorem dW_2003 : decode code 2003 = .ok (.i2l, 1) := by decide +kernel
theorem dW_2004 : decode code 2004 = .ok (.lcmp, 1) := by decide +kernel
theorem dW_2005 : decode code 2005 = .ok (.ifCond .eq 5, 3) := by decide +kernel
theorem dW_2010 : decode code 2010 = .ok (.goto 898, 3) := by decide +kernel
theorem dW_2013 : decode code 2013 = .ok (.aload_n 1, 1) := by decide +kernel
theorem dW_2014 : decode code 2014 = .ok (.aload_n 0, 1) := by decide +kernel
theorem dW_2015 : decode code 2015 = .ok (.iload 5, 2) := by decide +kernel
theorem dW_2017 : decode code 2017 = .ok (.iconst 1, 1) := by decide +kernel
theorem dW_2018 : decode code 2018 = .ok (.iadd, 1) := by decide +kernel
theorem dW_2019 : decode code 2019 = .ok (.iaload, 1) := by decide +kernel
theorem dW_2020 : decode code 2020 = .ok (.aload_n 0, 1) := by decide +kernel
theorem dW_2021 : decode code 2021 = .ok (.iload 5, 2) := by decide +kernel
theorem dW_2023 : decode code 2023 = .ok (.iconst 2, 1) := by decide +kernel
theorem dW_2024 : decode code 2024 = .ok (.iadd, 1) := by decide +kernel
theorem dW_2025 : decode code 2025 = .ok (.iaload, 1) := by decide +kernel
theorem dW_2026 : decode code 2026 = .ok (.aload_n 3, 1) := by decide +kernel
theorem dW_2027 : decode code 2027 = .ok (.invokestatic 292, 3) := by decide +kernel
theorem dW_2030 : decode code 2030 = .ok (.istore 6, 2) := by decide +kernel
theorem dW_2032 : decode code 2032 = .ok (.aload_n 2, 1) := by decide +kernel
theorem dW_2033 : decode code 2033 = .ok (.aload_n 0, 1) := by decide +kernel
theorem dW_2034 : decode code 2034 = .ok (.iload 5, 2) := by decide +kernel
theorem dW_2036 : decode code 2036 = .ok (.iconst 1, 1) := by decide +kernel
theorem dW_2037 : decode code 2037 = .ok (.iadd, 1) := by decide +kernel
theorem dW_2038 : decode code 2038 = .ok (.iaload, 1) := by decide +kernel
theorem dW_2039 : decode code 2039 = .ok (.aload_n 0, 1) := by decide +kernel
theorem dW_2040 : decode code 2040 = .ok (.iload 5, 2) := by decide +kernel
theorem dW_2042 : decode code 2042 = .ok (.iconst 2, 1) := by decide +kernel
theorem dW_2043 : decode code 2043 = .ok (.iadd, 1) := by decide +kernel
theorem dW_2044 : decode code 2044 = .ok (.iaload, 1) := by decide +kernel
theorem dW_2045 : decode code 2045 = .ok (.invokevirtual 294, 3) := by decide +kernel
theorem dW_2048 : decode code 2048 = .ok (.istore 7, 2) := by decide +kernel
theorem dW_2050 : decode code 2050 = .ok (.aload_n 2, 1) := by decide +kernel
theorem dW_2051 : decode code 2051 = .ok (.invokevirtual 144, 3) := by decide +kernel
theorem dW_2054 : decode code 2054 = .ok (.iload 6, 2) := by decide +kernel
theorem dW_2056 : decode code 2056 = .ok (.if_icmp .eq 5, 3) := by decide +kernel
theorem dW_2061 : decode code 2061 = .ok (.iload 6, 2) := by decide +kernel
theorem dW_2063 : decode code 2063 = .ok (.ifCond .ne 15, 3) := by decide +kernel
theorem dW_2066 : decode code 2066 = .ok (.aload_n 3, 1) := by decide +kernel
theorem dW_2067 : decode code 2067 = .ok (.iconst 0, 1) := by decide +kernel
theorem dW_2068 : decode code 2068 = .ok (.laload, 1) := by decide +kernel
theorem dW_2069 : decode code 2069 = .ok (.iload 7, 2) := by decide +kernel
theorem dW_2071 : decode code 2071 = .ok (.i2l, 1) := by decide +kernel
theorem dW_2072 : decode code 2072 = .ok (.lcmp, 1) := by decide +kernel
theorem dW_2073 : decode code 2073 = .ok (.ifCond .eq 5, 3) := by decide +kernel
theorem dW_2078 : decode code 2078 = .ok (.goto 830, 3) := by decide +kernel
theorem dW_2081 : decode code 2081 = .ok (.aload_n 1, 1) := by decide +kernel
theorem dW_2082 : decode code 2082 = .ok (.aload_n 0, 1) := by decide +kernel
theorem dW_2083 : decode code 2083 = .ok (.iload 5, 2) := by decide +kernel
theorem dW_2085 : decode code 2085 = .ok (.iconst 1, 1) := by decide +kernel
theorem dW_2086 : decode code 2086 = .ok (.iadd, 1) := by decide +kernel
theorem dW_2087 : decode code 2087 = .ok (.iaload, 1) := by decide +kernel
theorem dW_2088 : decode code 2088 = .ok (.aload_n 0, 1) := by decide +kernel
theorem dW_2089 : decode code 2089 = .ok (.iload 5, 2) := by decide +kernel
theorem dW_2091 : decode code 2091 = .ok (.iconst 2, 1) := by decide +kernel
theorem dW_2092 : decode code 2092 = .ok (.iadd, 1) := by decide +kernel
theorem dW_2093 : decode code 2093 = .ok (.iaload, 1) := by decide +kernel
theorem dW_2094 : decode code 2094 = .ok (.aload_n 3, 1) := by decide +kernel
theorem dW_2095 : decode code 2095 = .ok (.invokestatic 295, 3) := by decide +kernel
theorem dW_2098 : decode code 2098 = .ok (.istore 6, 2) := by decide +kernel
theorem dW_2100 : decode code 2100 = .ok (.aload_n 2, 1) := by decide +kernel
theorem dW_2101 : decode code 2101 = .ok (.aload_n 0, 1) := by decide +kernel
theorem dW_2102 : decode code 2102 = .ok (.iload 5, 2) := by decide +kernel
theorem dW_2104 : decode code 2104 = .ok (.iconst 1, 1) := by decide +kernel
theorem dW_2105 : decode code 2105 = .ok (.iadd, 1) := by decide +kernel
theorem dW_2106 : decode code 2106 = .ok (.iaload, 1) := by decide +kernel
theorem dW_2107 : decode code 2107 = .ok (.aload_n 0, 1) := by decide +kernel
theorem dW_2108 : decode code 2108 = .ok (.iload 5, 2) := by decide +kernel
theorem dW_2110 : decode code 2110 = .ok (.iconst 2, 1) := by decide +kernel
theorem dW_2111 : decode code 2111 = .ok (.iadd, 1) := by decide +kernel
theorem dW_2112 : decode code 2112 = .ok (.iaload, 1) := by decide +kernel
theorem dW_2113 : decode code 2113 = .ok (.invokevirtual 297, 3) := by decide +kernel
theorem dW_2116 : decode code 2116 = .ok (.istore 7, 2) := by decide +kernel
theorem dW_2118 : decode code 2118 = .ok (.aload_n 2, 1) := by decide +kernel
theorem dW_2119 : decode code 2119 = .ok (.invokevirtual 144, 3) := by decide +kernel
theorem dW_2122 : decode code 2122 = .ok (.iload 6, 2) := by decide +kernel
theorem dW_2124 : decode code 2124 = .ok (.if_icmp .eq 5, 3) := by decide +kernel
theorem dW_2129 : decode code 2129 = .ok (.iload 6, 2) := by decide +kernel
theorem dW_2131 : decode code 2131 = .ok (.ifCond .ne 15, 3) := by decide +kernel
theorem dW_2134 : decode code 2134 = .ok (.aload_n 3, 1) := by decide +kernel
theorem dW_2135 : decode code 2135 = .ok (.iconst 0, 1) := by decide +kernel
theorem dW_2136 : decode code 2136 = .ok (.laload, 1) := by decide +kernel
theorem dW_2137 : decode code 2137 = .ok (.iload 7, 2) := by decide +kernel
theorem dW_2139 : decode code 2139 = .ok (.i2l, 1) := by decide +kernel
theorem dW_2140 : decode code 2140 = .ok (.lcmp, 1) := by decide +kernel
theorem dW_2141 : decode code 2141 = .ok (.ifCond .eq 5, 3) := by decide +kernel
theorem dW_2146 : decode code 2146 = .ok (.goto 762, 3) := by decide +kernel
theorem dW_2149 : decode code 2149 = .ok (.aload_n 1, 1) := by decide +kernel
theorem dW_2150 : decode code 2150 = .ok (.aload_n 0, 1) := by decide +kernel
theorem dW_2151 : decode code 2151 = .ok (.iload 5, 2) := by decide +kernel
theorem dW_2153 : decode code 2153 = .ok (.iconst 1, 1) := by decide +kernel
theorem dW_2154 : decode code 2154 = .ok (.iadd, 1) := by decide +kernel
theorem dW_2155 : decode code 2155 = .ok (.iaload, 1) := by decide +kernel
theorem dW_2156 : decode code 2156 = .ok (.aload_n 0, 1) := by decide +kernel
theorem dW_2157 : decode code 2157 = .ok (.iload 5, 2) := by decide +kernel
theorem dW_2159 : decode code 2159 = .ok (.iconst 2, 1) := by decide +kernel
theorem dW_2160 : decode code 2160 = .ok (.iadd, 1) := by decide +kernel
theorem dW_2161 : decode code 2161 = .ok (.iaload, 1) := by decide +kernel
theorem dW_2162 : decode code 2162 = .ok (.aload_n 3, 1) := by decide +kernel
theorem dW_2163 : decode code 2163 = .ok (.invokestatic 298, 3) := by decide +kernel
theorem dW_2166 : decode code 2166 = .ok (.istore 6, 2) := by decide +kernel
theorem dW_2168 : decode code 2168 = .ok (.aload_n 2, 1) := by decide +kernel
theorem dW_2169 : decode code 2169 = .ok (.aload_n 0, 1) := by decide +kernel
theorem dW_2170 : decode code 2170 = .ok (.iload 5, 2) := by decide +kernel
theorem dW_2172 : decode code 2172 = .ok (.iconst 1, 1) := by decide +kernel
theorem dW_2173 : decode code 2173 = .ok (.iadd, 1) := by decide +kernel
theorem dW_2174 : decode code 2174 = .ok (.iaload, 1) := by decide +kernel
theorem dW_2175 : decode code 2175 = .ok (.aload_n 0, 1) := by decide +kernel
theorem dW_2176 : decode code 2176 = .ok (.iload 5, 2) := by decide +kernel
theorem dW_2178 : decode code 2178 = .ok (.iconst 2, 1) := by decide +kernel
theorem dW_2179 : decode code 2179 = .ok (.iadd, 1) := by decide +kernel
theorem dW_2180 : decode code 2180 = .ok (.iaload, 1) := by decide +kernel
theorem dW_2181 : decode code 2181 = .ok (.invokevirtual 300, 3) := by decide +kernel
theorem dW_2184 : decode code 2184 = .ok (.istore 7, 2) := by decide +kernel
theorem dW_2186 : decode code 2186 = .ok (.aload_n 2, 1) := by decide +kernel
theorem dW_2187 : decode code 2187 = .ok (.invokevirtual 144, 3) := by decide +kernel
theorem dW_2190 : decode code 2190 = .ok (.iload 6, 2) := by decide +kernel
theorem dW_2192 : decode code 2192 = .ok (.if_icmp .eq 5, 3) := by decide +kernel
theorem dW_2197 : decode code 2197 = .ok (.iload 6, 2) := by decide +kernel
theorem dW_2199 : decode code 2199 = .ok (.ifCond .ne 15, 3) := by decide +kernel
theorem dW_2202 : decode code 2202 = .ok (.aload_n 3, 1) := by decide +kernel
theorem dW_2203 : decode code 2203 = .ok (.iconst 0, 1) := by decide +kernel
theorem dW_2204 : decode code 2204 = .ok (.laload, 1) := by decide +kernel
theorem dW_2205 : decode code 2205 = .ok (.iload 7, 2) := by decide +kernel
theorem dW_2207 : decode code 2207 = .ok (.i2l, 1) := by decide +kernel
theorem dW_2208 : decode code 2208 = .ok (.lcmp, 1) := by decide +kernel
theorem dW_2209 : decode code 2209 = .ok (.ifCond .eq 5, 3) := by decide +kernel
theorem dW_2214 : decode code 2214 = .ok (.goto 694, 3) := by decide +kernel
theorem dW_2217 : decode code 2217 = .ok (.aload_n 1, 1) := by decide +kernel
theorem dW_2218 : decode code 2218 = .ok (.aload_n 0, 1) := by decide +kernel
theorem dW_2219 : decode code 2219 = .ok (.iload 5, 2) := by decide +kernel
theorem dW_2221 : decode code 2221 = .ok (.iconst 1, 1) := by decide +kernel
theorem dW_2222 : decode code 2222 = .ok (.iadd, 1) := by decide +kernel
theorem dW_2223 : decode code 2223 = .ok (.iaload, 1) := by decide +kernel
theorem dW_2224 : decode code 2224 = .ok (.aload_n 3, 1) := by decide +kernel
theorem dW_2225 : decode code 2225 = .ok (.invokestatic 301, 3) := by decide +kernel
theorem dW_2228 : decode code 2228 = .ok (.istore 6, 2) := by decide +kernel
theorem dW_2230 : decode code 2230 = .ok (.aload_n 2, 1) := by decide +kernel
theorem dW_2231 : decode code 2231 = .ok (.aload_n 0, 1) := by decide +kernel
theorem dW_2232 : decode code 2232 = .ok (.iload 5, 2) := by decide +kernel
theorem dW_2234 : decode code 2234 = .ok (.iconst 1, 1) := by decide +kernel
theorem dW_2235 : decode code 2235 = .ok (.iadd, 1) := by decide +kernel
theorem dW_2236 : decode code 2236 = .ok (.iaload, 1) := by decide +kernel
theorem dW_2237 : decode code 2237 = .ok (.invokevirtual 303, 3) := by decide +kernel
theorem dW_2240 : decode code 2240 = .ok (.istore 7, 2) := by decide +kernel
theorem dW_2242 : decode code 2242 = .ok (.aload_n 2, 1) := by decide +kernel
theorem dW_2243 : decode code 2243 = .ok (.invokevirtual 144, 3) := by decide +kernel
theorem dW_2246 : decode code 2246 = .ok (.iload 6, 2) := by decide +kernel
theorem dW_2248 : decode code 2248 = .ok (.if_icmp .eq 5, 3) := by decide +kernel
theorem dW_2253 : decode code 2253 = .ok (.iload 6, 2) := by decide +kernel
theorem dW_2255 : decode code 2255 = .ok (.ifCond .ne 15, 3) := by decide +kernel
theorem dW_2258 : decode code 2258 = .ok (.aload_n 3, 1) := by decide +kernel
theorem dW_2259 : decode code 2259 = .ok (.iconst 0, 1) := by decide +kernel
theorem dW_2260 : decode code 2260 = .ok (.laload, 1) := by decide +kernel
theorem dW_2261 : decode code 2261 = .ok (.iload 7, 2) := by decide +kernel
theorem dW_2263 : decode code 2263 = .ok (.i2l, 1) := by decide +kernel
theorem dW_2264 : decode code 2264 = .ok (.lcmp, 1) := by decide +kernel
theorem dW_2265 : decode code 2265 = .ok (.ifCond .eq 5, 3) := by decide +kernel
