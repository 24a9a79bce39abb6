theorem dB_old_26_m41_3_dec_0 : dAll YL.2.1 [(1924, (.iadd, 1)), (1925, (.iaload, 1)), (1926, (.invokevirtual 187, 3)), (1929, (.pop, 1)), (1930, (.aload_n 2, 1)), (1931, (.aload_n 0, 1)), (1932, (.iload_n 3, 1)), (1933, (.iconst 1, 1)), (1934, (.iadd, 1)), (1935, (.iaload, 1)), (1936, (.aload_n 0, 1)), (1937, (.iload_n 3, 1)), (1938, (.iconst 2, 1)), (1939, (.iadd, 1)), (1940, (.iaload, 1)), (1941, (.aload_n 0, 1)), (1942, (.iload_n 3, 1)), (1943, (.iconst 3, 1)), (1944, (.iadd, 1)), (1945, (.iaload, 1)), (1946, (.invokevirtual 190, 3)), (1949, (.pop, 1)), (1950, (.goto 1526, 3)), (1953, (.aload_n 1, 1)), (1954, (.invokevirtual 191, 3)), (1957, (.pop, 1)), (1958, (.aload_n 2, 1)), (1959, (.invokevirtual 194, 3)), (1962, (.pop, 1)), (1963, (.goto 1513, 3))] := dAll_of (by decide +kernel)
theorem d_L_1924 : decode YL.2.1 1924 = .ok (.iadd, 1) ∧ 1924 + 1 = 1925 := ⟨dB_old_26_m41_3_dec_0.1, by decide⟩
theorem d_L_1925 : decode YL.2.1 1925 = .ok (.iaload, 1) ∧ 1925 + 1 = 1926 := ⟨dB_old_26_m41_3_dec_0.2.1, by decide⟩
theorem d_L_1926 : decode YL.2.1 1926 = .ok (.invokevirtual 187, 3) ∧ 1926 + 3 = 1929 := ⟨dB_old_26_m41_3_dec_0.2.2.1, by decide⟩
theorem d_L_1929 : decode YL.2.1 1929 = .ok (.pop, 1) ∧ 1929 + 1 = 1930 := ⟨dB_old_26_m41_3_dec_0.2.2.2.1, by decide⟩
theorem d_L_1930 : decode YL.2.1 1930 = .ok (.aload_n 2, 1) ∧ 1930 + 1 = 1931 := ⟨dB_old_26_m41_3_dec_0.2.2.2.2.1, by decide⟩
theorem d_L_1931 : decode YL.2.1 1931 = .ok (.aload_n 0, 1) ∧ 1931 + 1 = 1932 := ⟨dB_old_26_m41_3_dec_0.2.2.2.2.2.1, by decide⟩
theorem d_L_1932 : decode YL.2.1 1932 = .ok (.iload_n 3, 1) ∧ 1932 + 1 = 1933 := ⟨dB_old_26_m41_3_dec_0.2.2.2.2.2.2.1, by decide⟩
theorem d_L_1933 : decode YL.2.1 1933 = .ok (.iconst 1, 1) ∧ 1933 + 1 = 1934 := ⟨dB_old_26_m41_3_dec_0.2.2.2.2.2.2.2.1, by decide⟩
theorem d_L_1934 : decode YL.2.1 1934 = .ok (.iadd, 1) ∧ 1934 + 1 = 1935 := ⟨dB_old_26_m41_3_dec_0.2.2.2.2.2.2.2.2.1, by decide⟩
theorem d_L_1935 : decode YL.2.1 1935 = .ok (.iaload, 1) ∧ 1935 + 1 = 1936 := ⟨dB_old_26_m41_3_dec_0.2.2.2.2.2.2.2.2.2.1, by decide⟩
theorem d_L_1936 : decode YL.2.1 1936 = .ok (.aload_n 0, 1) ∧ 1936 + 1 = 1937 := ⟨dB_old_26_m41_3_dec_0.2.2.2.2.2.2.2.2.2.2.1, by decide⟩
theorem d_L_1937 : decode YL.2.1 1937 = .ok (.iload_n 3, 1) ∧ 1937 + 1 = 1938 := ⟨dB_old_26_m41_3_dec_0.2.2.2.2.2.2.2.2.2.2.2.1, by decide⟩
theorem d_L_1938 : decode YL.2.1 1938 = .ok (.iconst 2, 1) ∧ 1938 + 1 = 1939 := ⟨dB_old_26_m41_3_dec_0.2.2.2.2.2.2.2.2.2.2.2.2.1, by decide⟩
theorem d_L_1939 : decode YL.2.1 1939 = .ok (.iadd, 1) ∧ 1939 + 1 = 1940 := ⟨dB_old_26_m41_3_dec_0.2.2.2.2.2.2.2.2.2.2.2.2.2.1, by decide⟩
theorem d_L_1940 : decode YL.2.1 1940 = .ok (.iaload, 1) ∧ 1940 + 1 = 1941 := ⟨dB_old_26_m41_3_dec_0.2.2.2.2.2.2.2.2.2.2.2.2.2.2.1, by decide⟩
theorem d_L_1941 : decode YL.2.1 1941 = .ok (.aload_n 0, 1) ∧ 1941 + 1 = 1942 := ⟨dB_old_26_m41_3_dec_0.2.2.2.2.2.2.2.2.2.2.2.2.2.2.2.1, by decide⟩
theorem d_L_1942 : decode YL.2.1 1942 = .ok (.iload_n 3, 1) ∧ 1942 + 1 = 1943 := ⟨dB_old_26_m41_3_dec_0.2.2.2.2.2.2.2.2.2.2.2.2.2.2.2.2.1, by decide⟩
theorem d_L_1943 : decode YL.2.1 1943 = .ok (.iconst 3, 1) ∧ 1943 + 1 = 1944 := ⟨dB_old_26_m41_3_dec_0.2.2.2.2.2.2.2.2.2.2.2.2.2.2.2.2.2.1, by decide⟩
theorem d_L_1944 : decode YL.2.1 1944 = .ok (.iadd, 1) ∧ 1944 + 1 = 1945 := ⟨dB_old_26_m41_3_dec_0.2.2.2.2.2.2.2.2.2.2.2.2.2.2.2.2.2.2.1, by decide⟩
theorem d_L_1945 : decode YL.2.1 1945 = .ok (.iaload, 1) ∧ 1945 + 1 = 1946 := ⟨dB_old_26_m41_3_dec_0.2.2.2.2.2.2.2.2.2.2.2.2.2.2.2.2.2.2.2.1, by decide⟩
theorem d_L_1946 : decode YL.2.1 1946 = .ok (.invokevirtual 190, 3) ∧ 1946 + 3 = 1949 := ⟨dB_old_26_m41_3_dec_0.2.2.2.2.2.2.2.2.2.2.2.2.2.2.2.2.2.2.2.2.1, by decide⟩
theorem d_L_1949 : decode YL.2.1 1949 = .ok (.pop, 1) ∧ 1949 + 1 = 1950 := ⟨dB_old_26_m41_3_dec_0.2.2.2.2.2.2.2.2.2.2.2.2.2.2.2.2.2.2.2.2.2.1, by decide⟩
theorem d_L_1950 : decode YL.2.1 1950 = .ok (.goto 1526, 3) ∧ ((1950 : Nat) : Int) + 1526 = ((3476 : Nat) : Int) ∧ 1950 + 3 = 1953 := ⟨dB_old_26_m41_3_dec_0.2.2.2.2.2.2.2.2.2.2.2.2.2.2.2.2.2.2.2.2.2.2.1, by decide⟩
theorem d_L_1953 : decode YL.2.1 1953 = .ok (.aload_n 1, 1) ∧ 1953 + 1 = 1954 := ⟨dB_old_26_m41_3_dec_0.2.2.2.2.2.2.2.2.2.2.2.2.2.2.2.2.2.2.2.2.2.2.2.1, by decide⟩
theorem d_L_1954 : decode YL.2.1 1954 = .ok (.invokevirtual 191, 3) ∧ 1954 + 3 = 1957 := ⟨dB_old_26_m41_3_dec_0.2.2.2.2.2.2.2.2.2.2.2.2.2.2.2.2.2.2.2.2.2.2.2.2.1, by decide⟩
theorem d_L_1957 : decode YL.2.1 1957 = .ok (.pop, 1) ∧ 1957 + 1 = 1958 := ⟨dB_old_26_m41_3_dec_0.2.2.2.2.2.2.2.2.2.2.2.2.2.2.2.2.2.2.2.2.2.2.2.2.2.1, by decide⟩
theorem d_L_1958 : decode YL.2.1 1958 = .ok (.aload_n 2, 1) ∧ 1958 + 1 = 1959 := ⟨dB_old_26_m41_3_dec_0.2.2.2.2.2.2.2.2.2.2.2.2.2.2.2.2.2.2.2.2.2.2.2.2.2.2.1, by decide⟩
theorem d_L_1959 : decode YL.2.1 1959 = .ok (.invokevirtual 194, 3) ∧ 1959 + 3 = 1962 := ⟨dB_old_26_m41_3_dec_0.2.2.2.2.2.2.2.2.2.2.2.2.2.2.2.2.2.2.2.2.2.2.2.2.2.2.2.1, by decide⟩
theorem d_L_1962 : decode YL.2.1 1962 = .ok (.pop, 1) ∧ 1962 + 1 = 1963 := ⟨dB_old_26_m41_3_dec_0.2.2.2.2.2.2.2.2.2.2.2.2.2.2.2.2.2.2.2.2.2.2.2.2.2.2.2.2.1, by decide⟩
theorem d_L_1963 : decode YL.2.1 1963 = .ok (.goto 1513, 3) ∧ ((1963 : Nat) : Int) + 1513 = ((3476 : Nat) : Int) ∧ 1963 + 3 = 1966 := ⟨dB_old_26_m41_3_dec_0.2.2.2.2.2.2.2.2.2.2.2.2.2.2.2.2.2.2.2.2.2.2.2.2.2.2.2.2.2.1, by decide⟩
theorem dB_old_26_m41_3_dec_1 : dAll YL.2.1 [(1966, (.aload_n 1, 1)), (1967, (.aload_n 0, 1)), (1968, (.iload_n 3, 1)), (1969, (.iconst 1, 1)), (1970, (.iadd, 1)), (1971, (.iaload, 1)), (1972, (.aload_n 0, 1)), (1973, (.iload_n 3, 1)), (1974, (.iconst 2, 1)), (1975, (.iadd, 1)), (1976, (.iaload, 1)), (1977, (.invokevirtual 195, 3)), (1980, (.pop, 1)), (1981, (.aload_n 2, 1)), (1982, (.aload_n 0, 1)), (1983, (.iload_n 3, 1)), (1984, (.iconst 1, 1)), (1985, (.iadd, 1)), (1986, (.iaload, 1)), (1987, (.aload_n 0, 1)), (1988, (.iload_n 3, 1)), (1989, (.iconst 2, 1)), (1990, (.iadd, 1)), (1991, (.iaload, 1)), (1992, (.invokevirtual 198, 3)), (1995, (.pop, 1)), (1996, (.goto 1480, 3)), (1999, (.aload_n 1, 1)), (2000, (.aload_n 0, 1)), (2001, (.iload_n 3, 1))] := dAll_of (by decide +kernel)
theorem d_L_1966 : decode YL.2.1 1966 = .ok (.aload_n 1, 1) ∧ 1966 + 1 = 1967 := ⟨dB_old_26_m41_3_dec_1.1, by decide⟩
theorem d_L_1967 : decode YL.2.1 1967 = .ok (.aload_n 0, 1) ∧ 1967 + 1 = 1968 := ⟨dB_old_26_m41_3_dec_1.2.1, by decide⟩
theorem d_L_1968 : decode YL.2.1 1968 = .ok (.iload_n 3, 1) ∧ 1968 + 1 = 1969 := ⟨dB_old_26_m41_3_dec_1.2.2.1, by decide⟩
theorem d_L_1969 : decode YL.2.1 1969 = .ok (.iconst 1, 1) ∧ 1969 + 1 = 1970 := ⟨dB_old_26_m41_3_dec_1.2.2.2.1, by decide⟩
theorem d_L_1970 : decode YL.2.1 1970 = .ok (.iadd, 1) ∧ 1970 + 1 = 1971 := ⟨dB_old_26_m41_3_dec_1.2.2.2.2.1, by decide⟩
theorem d_L_1971 : decode YL.2.1 1971 = .ok (.iaload, 1) ∧ 1971 + 1 = 1972 := ⟨dB_old_26_m41_3_dec_1.2.2.2.2.2.1, by decide⟩
theorem d_L_1972 : decode YL.2.1 1972 = .ok (.aload_n 0, 1) ∧ 1972 + 1 = 1973 := ⟨dB_old_26_m41_3_dec_1.2.2.2.2.2.2.1, by decide⟩
theorem d_L_1973 : decode YL.2.1 1973 = .ok (.iload_n 3, 1) ∧ 1973 + 1 = 1974 := ⟨dB_old_26_m41_3_dec_1.2.2.2.2.2.2.2.1, by decide⟩
theorem d_L_1974 : decode YL.2.1 1974 = .ok (.iconst 2, 1) ∧ 1974 + 1 = 1975 := ⟨dB_old_26_m41_3_dec_1.2.2.2.2.2.2.2.2.1, by decide⟩
theorem d_L_1975 : decode YL.2.1 1975 = .ok (.iadd, 1) ∧ 1975 + 1 = 1976 := ⟨dB_old_26_m41_3_dec_1.2.2.2.2.2.2.2.2.2.1, by decide⟩
theorem d_L_1976 : decode YL.2.1 1976 = .ok (.iaload, 1) ∧ 1976 + 1 = 1977 := ⟨dB_old_26_m41_3_dec_1.2.2.2.2.2.2.2.2.2.2.1, by decide⟩
theorem d_L_1977 : decode YL.2.1 1977 = .ok (.invokevirtual 195, 3) ∧ 1977 + 3 = 1980 := ⟨dB_old_26_m41_3_dec_1.2.2.2.2.2.2.2.2.2.2.2.1, by decide⟩
theorem d_L_1980 : decode YL.2.1 1980 = .ok (.pop, 1) ∧ 1980 + 1 = 1981 := ⟨dB_old_26_m41_3_dec_1.2.2.2.2.2.2.2.2.2.2.2.2.1, by decide⟩
theorem d_L_1981 : decode YL.2.1 1981 = .ok (.aload_n 2, 1) ∧ 1981 + 1 = 1982 := ⟨dB_old_26_m41_3_dec_1.2.2.2.2.2.2.2.2.2.2.2.2.2.1, by decide⟩
theorem d_L_1982 : decode YL.2.1 1982 = .ok (.aload_n 0, 1) ∧ 1982 + 1 = 1983 := ⟨dB_old_26_m41_3_dec_1.2.2.2.2.2.2.2.2.2.2.2.2.2.2.1, by decide⟩
theorem d_L_1983 : decode YL.2.1 1983 = .ok (.iload_n 3, 1) ∧ 1983 + 1 = 1984 := ⟨dB_old_26_m41_3_dec_1.2.2.2.2.2.2.2.2.2.2.2.2.2.2.2.1, by decide⟩
theorem d_L_1984 : decode YL.2.1 1984 = .ok (.iconst 1, 1) ∧ 1984 + 1 = 1985 := ⟨dB_old_26_m41_3_dec_1.2.2.2.2.2.2.2.2.2.2.2.2.2.2.2.2.1, by decide⟩
theorem d_L_1985 : decode YL.2.1 1985 = .ok (.iadd, 1) ∧ 1985 + 1 = 1986 := ⟨dB_old_26_m41_3_dec_1.2.2.2.2.2.2.2.2.2.2.2.2.2.2.2.2.2.1, by decide⟩
theorem d_L_1986 : decode YL.2.1 1986 = .ok (.iaload, 1) ∧ 1986 + 1 = 1987 := ⟨dB_old_26_m41_3_dec_1.2.2.2.2.2.2.2.2.2.2.2.2.2.2.2.2.2.2.1, by decide⟩
theorem d_L_1987 : decode YL.2.1 1987 = .ok (.aload_n 0, 1) ∧ 1987 + 1 = 1988 := ⟨dB_old_26_m41_3_dec_1.2.2.2.2.2.2.2.2.2.2.2.2.2.2.2.2.2.2.2.1, by decide⟩
theorem d_L_1988 : decode YL.2.1 1988 = .ok (.iload_n 3, 1) ∧ 1988 + 1 = 1989 := ⟨dB_old_26_m41_3_dec_1.2.2.2.2.2.2.2.2.2.2.2.2.2.2.2.2.2.2.2.2.1, by decide⟩
theorem d_L_1989 : decode YL.2.1 1989 = .ok (.iconst 2, 1) ∧ 1989 + 1 = 1990 := ⟨dB_old_26_m41_3_dec_1.2.2.2.2.2.2.2.2.2.2.2.2.2.2.2.2.2.2.2.2.2.1, by decide⟩
theorem d_L_1990 : decode YL.2.1 1990 = .ok (.iadd, 1) ∧ 1990 + 1 = 1991 := ⟨dB_old_26_m41_3_dec_1.2.2.2.2.2.2.2.2.2.2.2.2.2.2.2.2.2.2.2.2.2.2.1, by decide⟩
theorem d_L_1991 : decode YL.2.1 1991 = .ok (.iaload, 1) ∧ 1991 + 1 = 1992 := ⟨dB_old_26_m41_3_dec_1.2.2.2.2.2.2.2.2.2.2.2.2.2.2.2.2.2.2.2.2.2.2.2.1, by decide⟩
theorem d_L_1992 : decode YL.2.1 1992 = .ok (.invokevirtual 198, 3) ∧ 1992 + 3 = 1995 := ⟨dB_old_26_m41_3_dec_1.2.2.2.2.2.2.2.2.2.2.2.2.2.2.2.2.2.2.2.2.2.2.2.2.1, by decide⟩
theorem d_L_1995 : decode YL.2.1 1995 = .ok (.pop, 1) ∧ 1995 + 1 = 1996 := ⟨dB_old_26_m41_3_dec_1.2.2.2.2.2.2.2.2.2.2.2.2.2.2.2.2.2.2.2.2.2.2.2.2.2.1, by decide⟩
theorem d_L_1996 : decode YL.2.1 1996 = .ok (.goto 1480, 3) ∧ ((1996 : Nat) : Int) + 1480 = ((3476 : Nat) : Int) ∧ 1996 + 3 = 1999 := ⟨dB_old_26_m41_3_dec_1.2.2.2.2.2.2.2.2.2.2.2.2.2.2.2.2.2.2.2.2.2.2.2.2.2.2.1, by decide⟩
theorem d_L_1999 : decode YL.2.1 1999 = .ok (.aload_n 1, 1) ∧ 1999 + 1 = 2000 := ⟨dB_old_26_m41_3_dec_1.2.2.2.2.2.2.2.2.2.2.2.2.2.2.2.2.2.2.2.2.2.2.2.2.2.2.2.1, by decide⟩
theorem d_L_2000 : decode YL.2.1 2000 = .ok (.aload_n 0, 1) ∧ 2000 + 1 = 2001 := ⟨dB_old_26_m41_3_dec_1.2.2.2.2.2.2.2.2.2.2.2.2.2.2.2.2.2.2.2.2.2.2.2.2.2.2.2.2.1, by decide⟩
theorem d_L_2001 : decode YL.2.1 2001 = .ok (.iload_n 3, 1) ∧ 2001 + 1 = 2002 := ⟨dB_old_26_m41_3_dec_1.2.2.2.2.2.2.2.2.2.2.2.2.2.2.2.2.2.2.2.2.2.2.2.2.2.2.2.2.2.1, by decide⟩
theorem dB_old_26_m41_3_dec_2 : dAll YL.2.1 [(2002, (.iconst 1, 1)), (2003, (.iadd, 1)), (2004, (.iaload, 1)), (2005, (.aload_n 0, 1)), (2006, (.iload_n 3, 1)), (2007, (.iconst 2, 1)), (2008, (.iadd, 1)), (2009, (.iaload, 1)), (2010, (.aload_n 0, 1)), (2011, (.iload_n 3, 1)), (2012, (.iconst 3, 1)), (2013, (.iadd, 1)), (2014, (.iaload, 1)), (2015, (.aload_n 0, 1)), (2016, (.iload_n 3, 1)), (2017, (.iconst 4, 1)), (2018, (.iadd, 1)), (2019, (.iaload, 1)), (2020, (.invokevirtual 199, 3)), (2023, (.pop, 1)), (2024, (.aload_n 2, 1)), (2025, (.aload_n 0, 1)), (2026, (.iload_n 3, 1)), (2027, (.iconst 1, 1)), (2028, (.iadd, 1)), (2029, (.iaload, 1)), (2030, (.aload_n 0, 1)), (2031, (.iload_n 3, 1)), (2032, (.iconst 2, 1)), (2033, (.iadd, 1))] := dAll_of (by decide +kernel)
theorem d_L_2002 : decode YL.2.1 2002 = .ok (.iconst 1, 1) ∧ 2002 + 1 = 2003 := ⟨dB_old_26_m41_3_dec_2.1, by decide⟩
theorem d_L_2003 : decode YL.2.1 2003 = .ok (.iadd, 1) ∧ 2003 + 1 = 2004 := ⟨dB_old_26_m41_3_dec_2.2.1, by decide⟩
theorem d_L_2004 : decode YL.2.1 2004 = .ok (.iaload, 1) ∧ 2004 + 1 = 2005 := ⟨dB_old_26_m41_3_dec_2.2.2.1, by decide⟩
theorem d_L_2005 : decode YL.2.1 2005 = .ok (.aload_n 0, 1) ∧ 2005 + 1 = 2006 := ⟨dB_old_26_m41_3_dec_2.2.2.2.1, by decide⟩
theorem d_L_2006 : decode YL.2.1 2006 = .ok (.iload_n 3, 1) ∧ 2006 + 1 = 2007 := ⟨dB_old_26_m41_3_dec_2.2.2.2.2.1, by decide⟩
theorem d_L_2007 : decode YL.2.1 2007 = .ok (.iconst 2, 1) ∧ 2007 + 1 = 2008 := ⟨dB_old_26_m41_3_dec_2.2.2.2.2.2.1, by decide⟩
theorem d_L_2008 : decode YL.2.1 2008 = .ok (.iadd, 1) ∧ 2008 + 1 = 2009 := ⟨dB_old_26_m41_3_dec_2.2.2.2.2.2.2.1, by decide⟩
theorem d_L_2009 : decode YL.2.1 2009 = .ok (.iaload, 1) ∧ 2009 + 1 = 2010 := ⟨dB_old_26_m41_3_dec_2.2.2.2.2.2.2.2.1, by decide⟩
theorem d_L_2010 : decode YL.2.1 2010 = .ok (.aload_n 0, 1) ∧ 2010 + 1 = 2011 := ⟨dB_old_26_m41_3_dec_2.2.2.2.2.2.2.2.2.1, by decide⟩
theorem d_L_2011 : decode YL.2.1 2011 = .ok (.iload_n 3, 1) ∧ 2011 + 1 = 2012 := ⟨dB_old_26_m41_3_dec_2.2.2.2.2.2.2.2.2.2.1, by decide⟩
theorem d_L_2012 : decode YL.2.1 2012 = .ok (.iconst 3, 1) ∧ 2012 + 1 = 2013 := ⟨dB_old_26_m41_3_dec_2.2.2.2.2.2.2.2.2.2.2.1, by decide⟩
theorem d_L_2013 : decode YL.2.1 2013 = .ok (.iadd, 1) ∧ 2013 + 1 = 2014 := ⟨dB_old_26_m41_3_dec_2.2.2.2.2.2.2.2.2.2.2.2.1, by decide⟩
theorem d_L_2014 : decode YL.2.1 2014 = .ok (.iaload, 1) ∧ 2014 + 1 = 2015 := ⟨dB_old_26_m41_3_dec_2.2.2.2.2.2.2.2.2.2.2.2.2.1, by decide⟩
theorem d_L_2015 : decode YL.2.1 2015 = .ok (.aload_n 0, 1) ∧ 2015 + 1 = 2016 := ⟨dB_old_26_m41_3_dec_2.2.2.2.2.2.2.2.2.2.2.2.2.2.1, by decide⟩
theorem d_L_2016 : decode YL.2.1 2016 = .ok (.iload_n 3, 1) ∧ 2016 + 1 = 2017 := ⟨dB_old_26_m41_3_dec_2.2.2.2.2.2.2.2.2.2.2.2.2.2.2.1, by decide⟩
theorem d_L_2017 : decode YL.2.1 2017 = .ok (.iconst 4, 1) ∧ 2017 + 1 = 2018 := ⟨dB_old_26_m41_3_dec_2.2.2.2.2.2.2.2.2.2.2.2.2.2.2.2.1, by decide⟩
theorem d_L_2018 : decode YL.2.1 2018 = .ok (.iadd, 1) ∧ 2018 + 1 = 2019 := ⟨dB_old_26_m41_3_dec_2.2.2.2.2.2.2.2.2.2.2.2.2.2.2.2.2.1, by decide⟩
theorem d_L_2019 : decode YL.2.1 2019 = .ok (.iaload, 1) ∧ 2019 + 1 = 2020 := ⟨dB_old_26_m41_3_dec_2.2.2.2.2.2.2.2.2.2.2.2.2.2.2.2.2.2.1, by decide⟩
theorem d_L_2020 : decode YL.2.1 2020 = .ok (.invokevirtual 199, 3) ∧ 2020 + 3 = 2023 := ⟨dB_old_26_m41_3_dec_2.2.2.2.2.2.2.2.2.2.2.2.2.2.2.2.2.2.2.1, by decide⟩
theorem d_L_2023 : decode YL.2.1 2023 = .ok (.pop, 1) ∧ 2023 + 1 = 2024 := ⟨dB_old_26_m41_3_dec_2.2.2.2.2.2.2.2.2.2.2.2.2.2.2.2.2.2.2.2.1, by decide⟩
theorem d_L_2024 : decode YL.2.1 2024 = .ok (.aload_n 2, 1) ∧ 2024 + 1 = 2025 := ⟨dB_old_26_m41_3_dec_2.2.2.2.2.2.2.2.2.2.2.2.2.2.2.2.2.2.2.2.2.1, by decide⟩
theorem d_L_2025 : decode YL.2.1 2025 = .ok (.aload_n 0, 1) ∧ 2025 + 1 = 2026 := ⟨dB_old_26_m41_3_dec_2.2.2.2.2.2.2.2.2.2.2.2.2.2.2.2.2.2.2.2.2.2.1, by decide⟩
theorem d_L_2026 : decode YL.2.1 2026 = .ok (.iload_n 3, 1) ∧ 2026 + 1 = 2027 := ⟨dB_old_26_m41_3_dec_2.2.2.2.2.2.2.2.2.2.2.2.2.2.2.2.2.2.2.2.2.2.2.1, by decide⟩
theorem d_L_2027 : decode YL.2.1 2027 = .ok (.iconst 1, 1) ∧ 2027 + 1 = 2028 := ⟨dB_old_26_m41_3_dec_2.2.2.2.2.2.2.2.2.2.2.2.2.2.2.2.2.2.2.2.2.2.2.2.1, by decide⟩
theorem d_L_2028 : decode YL.2.1 2028 = .ok (.iadd, 1) ∧ 2028 + 1 = 2029 := ⟨dB_old_26_m41_3_dec_2.2.2.2.2.2.2.2.2.2.2.2.2.2.2.2.2.2.2.2.2.2.2.2.2.1, by decide⟩
theorem d_L_2029 : decode YL.2.1 2029 = .ok (.iaload, 1) ∧ 2029 + 1 = 2030 := ⟨dB_old_26_m41_3_dec_2.2.2.2.2.2.2.2.2.2.2.2.2.2.2.2.2.2.2.2.2.2.2.2.2.2.1, by decide⟩
theorem d_L_2030 : decode YL.2.1 2030 = .ok (.aload_n 0, 1) ∧ 2030 + 1 = 2031 := ⟨dB_old_26_m41_3_dec_2.2.2.2.2.2.2.2.2.2.2.2.2.2.2.2.2.2.2.2.2.2.2.2.2.2.2.1, by decide⟩
theorem d_L_2031 : decode YL.2.1 2031 = .ok (.iload_n 3, 1) ∧ 2031 + 1 = 2032 := ⟨dB_old_26_m41_3_dec_2.2.2.2.2.2.2.2.2.2.2.2.2.2.2.2.2.2.2.2.2.2.2.2.2.2.2.2.1, by decide⟩
theorem d_L_2032 : decode YL.2.1 2032 = .ok (.iconst 2, 1) ∧ 2032 + 1 = 2033 := ⟨dB_old_26_m41_3_dec_2.2.2.2.2.2.2.2.2.2.2.2.2.2.2.2.2.2.2.2.2.2.2.2.2.2.2.2.2.1, by decide⟩
theorem d_L_2033 : decode YL.2.1 2033 = .ok (.iadd, 1) ∧ 2033 + 1 = 2034 := ⟨dB_old_26_m41_3_dec_2.2.2.2.2.2.2.2.2.2.2.2.2.2.2.2.2.2.2.2.2.2.2.2.2.2.2.2.2.2.1, by decide⟩
theorem dB_old_26_m41_3_dec_3 : dAll YL.2.1 [(2034, (.iaload, 1)), (2035, (.aload_n 0, 1)), (2036, (.iload_n 3, 1)), (2037, (.iconst 3, 1)), (2038, (.iadd, 1)), (2039, (.iaload, 1)), (2040, (.aload_n 0, 1)), (2041, (.iload_n 3, 1)), (2042, (.iconst 4, 1)), (2043, (.iadd, 1)), (2044, (.iaload, 1)), (2045, (.invokevirtual 202, 3)), (2048, (.pop, 1)), (2049, (.goto 1427, 3)), (2052, (.aload_n 1, 1)), (2053, (.aload_n 0, 1)), (2054, (.iload_n 3, 1)), (2055, (.iconst 1, 1)), (2056, (.iadd, 1)), (2057, (.iaload, 1)), (2058, (.aload_n 0, 1)), (2059, (.iload_n 3, 1)), (2060, (.iconst 2, 1)), (2061, (.iadd, 1)), (2062, (.iaload, 1)), (2063, (.invokevirtual 203, 3)), (2066, (.pop, 1)), (2067, (.aload_n 2, 1)), (2068, (.aload_n 0, 1)), (2069, (.iload_n 3, 1))] := dAll_of (by decide +kernel)
theorem d_L_2034 : decode YL.2.1 2034 = .ok (.iaload, 1) ∧ 2034 + 1 = 2035 := ⟨dB_old_26_m41_3_dec_3.1, by decide⟩
theorem d_L_2035 : decode YL.2.1 2035 = .ok (.aload_n 0, 1) ∧ 2035 + 1 = 2036 := ⟨dB_old_26_m41_3_dec_3.2.1, by decide⟩
theorem d_L_2036 : decode YL.2.1 2036 = .ok (.iload_n 3, 1) ∧ 2036 + 1 = 2037 := ⟨dB_old_26_m41_3_dec_3.2.2.1, by decide⟩
theorem d_L_2037 : decode YL.2.1 2037 = .ok (.iconst 3, 1) ∧ 2037 + 1 = 2038 := ⟨dB_old_26_m41_3_dec_3.2.2.2.1, by decide⟩
theorem d_L_2038 : decode YL.2.1 2038 = .ok (.iadd, 1) ∧ 2038 + 1 = 2039 := ⟨dB_old_26_m41_3_dec_3.2.2.2.2.1, by decide⟩
theorem d_L_2039 : decode YL.2.1 2039 = .ok (.iaload, 1) ∧ 2039 + 1 = 2040 := ⟨dB_old_26_m41_3_dec_3.2.2.2.2.2.1, by decide⟩
theorem d_L_2040 : decode YL.2.1 2040 = .ok (.aload_n 0, 1) ∧ 2040 + 1 = 2041 := ⟨dB_old_26_m41_3_dec_3.2.2.2.2.2.2.1, by decide⟩
theorem d_L_2041 : decode YL.2.1 2041 = .ok (.iload_n 3, 1) ∧ 2041 + 1 = 2042 := ⟨dB_old_26_m41_3_dec_3.2.2.2.2.2.2.2.1, by decide⟩
theorem d_L_2042 : decode YL.2.1 2042 = .ok (.iconst 4, 1) ∧ 2042 + 1 = 2043 := ⟨dB_old_26_m41_3_dec_3.2.2.2.2.2.2.2.2.1, by decide⟩
theorem d_L_2043 : decode YL.2.1 2043 = .ok (.iadd, 1) ∧ 2043 + 1 = 2044 := ⟨dB_old_26_m41_3_dec_3.2.2.2.2.2.2.2.2.2.1, by decide⟩
theorem d_L_2044 : decode YL.2.1 2044 = .ok (.iaload, 1) ∧ 2044 + 1 = 2045 := ⟨dB_old_26_m41_3_dec_3.2.2.2.2.2.2.2.2.2.2.1, by decide⟩
theorem d_L_2045 : decode YL.2.1 2045 = .ok (.invokevirtual 202, 3) ∧ 2045 + 3 = 2048 := ⟨dB_old_26_m41_3_dec_3.2.2.2.2.2.2.2.2.2.2.2.1, by decide⟩
theorem d_L_2048 : decode YL.2.1 2048 = .ok (.pop, 1) ∧ 2048 + 1 = 2049 := ⟨dB_old_26_m41_3_dec_3.2.2.2.2.2.2.2.2.2.2.2.2.1, by decide⟩
theorem d_L_2049 : decode YL.2.1 2049 = .ok (.goto 1427, 3) ∧ ((2049 : Nat) : Int) + 1427 = ((3476 : Nat) : Int) ∧ 2049 + 3 = 2052 := ⟨dB_old_26_m41_3_dec_3.2.2.2.2.2.2.2.2.2.2.2.2.2.1, by decide⟩
theorem d_L_2052 : decode YL.2.1 2052 = .ok (.aload_n 1, 1) ∧ 2052 + 1 = 2053 := ⟨dB_old_26_m41_3_dec_3.2.2.2.2.2.2.2.2.2.2.2.2.2.2.1, by decide⟩
theorem d_L_2053 : decode YL.2.1 2053 = .ok (.aload_n 0, 1) ∧ 2053 + 1 = 2054 := ⟨dB_old_26_m41_3_dec_3.2.2.2.2.2.2.2.2.2.2.2.2.2.2.2.1, by decide⟩
theorem d_L_2054 : decode YL.2.1 2054 = .ok (.iload_n 3, 1) ∧ 2054 + 1 = 2055 := ⟨dB_old_26_m41_3_dec_3.2.2.2.2.2.2.2.2.2.2.2.2.2.2.2.2.1, by decide⟩
theorem d_L_2055 : decode YL.2.1 2055 = .ok (.iconst 1, 1) ∧ 2055 + 1 = 2056 := ⟨dB_old_26_m41_3_dec_3.2.2.2.2.2.2.2.2.2.2.2.2.2.2.2.2.2.1, by decide⟩
theorem d_L_2056 : decode YL.2.1 2056 = .ok (.iadd, 1) ∧ 2056 + 1 = 2057 := ⟨dB_old_26_m41_3_dec_3.2.2.2.2.2.2.2.2.2.2.2.2.2.2.2.2.2.2.1, by decide⟩
theorem d_L_2057 : decode YL.2.1 2057 = .ok (.iaload, 1) ∧ 2057 + 1 = 2058 := ⟨dB_old_26_m41_3_dec_3.2.2.2.2.2.2.2.2.2.2.2.2.2.2.2.2.2.2.2.1, by decide⟩
theorem d_L_2058 : decode YL.2.1 2058 = .ok (.aload_n 0, 1) ∧ 2058 + 1 = 2059 := ⟨dB_old_26_m41_3_dec_3.2.2.2.2.2.2.2.2.2.2.2.2.2.2.2.2.2.2.2.2.1, by decide⟩
theorem d_L_2059 : decode YL.2.1 2059 = .ok (.iload_n 3, 1) ∧ 2059 + 1 = 2060 := ⟨dB_old_26_m41_3_dec_3.2.2.2.2.2.2.2.2.2.2.2.2.2.2.2.2.2.2.2.2.2.1, by decide⟩
theorem d_L_2060 : decode YL.2.1 2060 = .ok (.iconst 2, 1) ∧ 2060 + 1 = 2061 := ⟨dB_old_26_m41_3_dec_3.2.2.2.2.2.2.2.2.2.2.2.2.2.2.2.2.2.2.2.2.2.2.1, by decide⟩
theorem d_L_2061 : decode YL.2.1 2061 = .ok (.iadd, 1) ∧ 2061 + 1 = 2062 := ⟨dB_old_26_m41_3_dec_3.2.2.2.2.2.2.2.2.2.2.2.2.2.2.2.2.2.2.2.2.2.2.2.1, by decide⟩
theorem d_L_2062 : decode YL.2.1 2062 = .ok (.iaload, 1) ∧ 2062 + 1 = 2063 := ⟨dB_old_26_m41_3_dec_3.2.2.2.2.2.2.2.2.2.2.2.2.2.2.2.2.2.2.2.2.2.2.2.2.1, by decide⟩
theorem d_L_2063 : decode YL.2.1 2063 = .ok (.invokevirtual 203, 3) ∧ 2063 + 3 = 2066 := ⟨dB_old_26_m41_3_dec_3.2.2.2.2.2.2.2.2.2.2.2.2.2.2.2.2.2.2.2.2.2.2.2.2.2.1, by decide⟩
theorem d_L_2066 : decode YL.2.1 2066 = .ok (.pop, 1) ∧ 2066 + 1 = 2067 := ⟨dB_old_26_m41_3_dec_3.2.2.2.2.2.2.2.2.2.2.2.2.2.2.2.2.2.2.2.2.2.2.2.2.2.2.1, by decide⟩
theorem d_L_2067 : decode YL.2.1 2067 = .ok (.aload_n 2, 1) ∧ 2067 + 1 = 2068 := ⟨dB_old_26_m41_3_dec_3.2.2.2.2.2.2.2.2.2.2.2.2.2.2.2.2.2.2.2.2.2.2.2.2.2.2.2.1, by decide⟩
theorem d_L_2068 : decode YL.2.1 2068 = .ok (.aload_n 0, 1) ∧ 2068 + 1 = 2069 := ⟨dB_old_26_m41_3_dec_3.2.2.2.2.2.2.2.2.2.2.2.2.2.2.2.2.2.2.2.2.2.2.2.2.2.2.2.2.1, by decide⟩
theorem d_L_2069 : decode YL.2.1 2069 = .ok (.iload_n 3, 1) ∧ 2069 + 1 = 2070 := ⟨dB_old_26_m41_3_dec_3.2.2.2.2.2.2.2.2.2.2.2.2.2.2.2.2.2.2.2.2.2.2.2.2.2.2.2.2.2.1, by decide⟩
theorem dB_old_26_m41_3_dec_4 : dAll YL.2.1 [(2070, (.iconst 1, 1)), (2071, (.iadd, 1)), (2072, (.iaload, 1)), (2073, (.aload_n 0, 1)), (2074, (.iload_n 3, 1)), (2075, (.iconst 2, 1)), (2076, (.iadd, 1)), (2077, (.iaload, 1)), (2078, (.invokevirtual 206, 3)), (2081, (.pop, 1)), (2082, (.goto 1394, 3)), (2085, (.aload_n 1, 1)), (2086, (.aload_n 0, 1)), (2087, (.iload_n 3, 1)), (2088, (.iconst 1, 1)), (2089, (.iadd, 1)), (2090, (.iaload, 1)), (2091, (.aload_n 0, 1)), (2092, (.iload_n 3, 1)), (2093, (.iconst 2, 1)), (2094, (.iadd, 1)), (2095, (.iaload, 1)), (2096, (.invokevirtual 207, 3)), (2099, (.pop, 1)), (2100, (.aload_n 2, 1)), (2101, (.aload_n 0, 1)), (2102, (.iload_n 3, 1)), (2103, (.iconst 1, 1)), (2104, (.iadd, 1)), (2105, (.iaload, 1))] := dAll_of (by decide +kernel)
theorem d_L_2070 : decode YL.2.1 2070 = .ok (.iconst 1, 1) ∧ 2070 + 1 = 2071 := ⟨dB_old_26_m41_3_dec_4.1, by decide⟩
theorem d_L_2071 : decode YL.2.1 2071 = .ok (.iadd, 1) ∧ 2071 + 1 = 2072 := ⟨dB_old_26_m41_3_dec_4.2.1, by decide⟩
theorem d_L_2072 : decode YL.2.1 2072 = .ok (.iaload, 1) ∧ 2072 + 1 = 2073 := ⟨dB_old_26_m41_3_dec_4.2.2.1, by decide⟩
theorem d_L_2073 : decode YL.2.1 2073 = .ok (.aload_n 0, 1) ∧ 2073 + 1 = 2074 := ⟨dB_old_26_m41_3_dec_4.2.2.2.1, by decide⟩
theorem d_L_2074 : decode YL.2.1 2074 = .ok (.iload_n 3, 1) ∧ 2074 + 1 = 2075 := ⟨dB_old_26_m41_3_dec_4.2.2.2.2.1, by decide⟩
theorem d_L_2075 : decode YL.2.1 2075 = .ok (.iconst 2, 1) ∧ 2075 + 1 = 2076 := ⟨dB_old_26_m41_3_dec_4.2.2.2.2.2.1, by decide⟩
theorem d_L_2076 : decode YL.2.1 2076 = .ok (.iadd, 1) ∧ 2076 + 1 = 2077 := ⟨dB_old_26_m41_3_dec_4.2.2.2.2.2.2.1, by decide⟩
theorem d_L_2077 : decode YL.2.1 2077 = .ok (.iaload, 1) ∧ 2077 + 1 = 2078 := ⟨dB_old_26_m41_3_dec_4.2.2.2.2.2.2.2.1, by decide⟩
theorem d_L_2078 : decode YL.2.1 2078 = .ok (.invokevirtual 206, 3) ∧ 2078 + 3 = 2081 := ⟨dB_old_26_m41_3_dec_4.2.2.2.2.2.2.2.2.1, by decide⟩
theorem d_L_2081 : decode YL.2.1 2081 = .ok (.pop, 1) ∧ 2081 + 1 = 2082 := ⟨dB_old_26_m41_3_dec_4.2.2.2.2.2.2.2.2.2.1, by decide⟩
theorem d_L_2082 : decode YL.2.1 2082 = .ok (.goto 1394, 3) ∧ ((2082 : Nat) : Int) + 1394 = ((3476 : Nat) : Int) ∧ 2082 + 3 = 2085 := ⟨dB_old_26_m41_3_dec_4.2.2.2.2.2.2.2.2.2.2.1, by decide⟩
theorem d_L_2085 : decode YL.2.1 2085 = .ok (.aload_n 1, 1) ∧ 2085 + 1 = 2086 := ⟨dB_old_26_m41_3_dec_4.2.2.2.2.2.2.2.2.2.2.2.1, by decide⟩
theorem d_L_2086 : decode YL.2.1 2086 = .ok (.aload_n 0, 1) ∧ 2086 + 1 = 2087 := ⟨dB_old_26_m41_3_dec_4.2.2.2.2.2.2.2.2.2.2.2.2.1, by decide⟩
theorem d_L_2087 : decode YL.2.1 2087 = .ok (.iload_n 3, 1) ∧ 2087 + 1 = 2088 := ⟨dB_old_26_m41_3_dec_4.2.2.2.2.2.2.2.2.2.2.2.2.2.1, by decide⟩
theorem d_L_2088 : decode YL.2.1 2088 = .ok (.iconst 1, 1) ∧ 2088 + 1 = 2089 := ⟨dB_old_26_m41_3_dec_4.2.2.2.2.2.2.2.2.2.2.2.2.2.2.1, by decide⟩
theorem d_L_2089 : decode YL.2.1 2089 = .ok (.iadd, 1) ∧ 2089 + 1 = 2090 := ⟨dB_old_26_m41_3_dec_4.2.2.2.2.2.2.2.2.2.2.2.2.2.2.2.1, by decide⟩
theorem d_L_2090 : decode YL.2.1 2090 = .ok (.iaload, 1) ∧ 2090 + 1 = 2091 := ⟨dB_old_26_m41_3_dec_4.2.2.2.2.2.2.2.2.2.2.2.2.2.2.2.2.1, by decide⟩
theorem d_L_2091 : decode YL.2.1 2091 = .ok (.aload_n 0, 1) ∧ 2091 + 1 = 2092 := ⟨dB_old_26_m41_3_dec_4.2.2.2.2.2.2.2.2.2.2.2.2.2.2.2.2.2.1, by decide⟩
theorem d_L_2092 : decode YL.2.1 2092 = .ok (.iload_n 3, 1) ∧ 2092 + 1 = 2093 := ⟨dB_old_26_m41_3_dec_4.2.2.2.2.2.2.2.2.2.2.2.2.2.2.2.2.2.2.1, by decide⟩
theorem d_L_2093 : decode YL.2.1 2093 = .ok (.iconst 2, 1) ∧ 2093 + 1 = 2094 := ⟨dB_old_26_m41_3_dec_4.2.2.2.2.2.2.2.2.2.2.2.2.2.2.2.2.2.2.2.1, by decide⟩
theorem d_L_2094 : decode YL.2.1 2094 = .ok (.iadd, 1) ∧ 2094 + 1 = 2095 := ⟨dB_old_26_m41_3_dec_4.2.2.2.2.2.2.2.2.2.2.2.2.2.2.2.2.2.2.2.2.1, by decide⟩
theorem d_L_2095 : decode YL.2.1 2095 = .ok (.iaload, 1) ∧ 2095 + 1 = 2096 := ⟨dB_old_26_m41_3_dec_4.2.2.2.2.2.2.2.2.2.2.2.2.2.2.2.2.2.2.2.2.2.1, by decide⟩
theorem d_L_2096 : decode YL.2.1 2096 = .ok (.invokevirtual 207, 3) ∧ 2096 + 3 = 2099 := ⟨dB_old_26_m41_3_dec_4.2.2.2.2.2.2.2.2.2.2.2.2.2.2.2.2.2.2.2.2.2.2.1, by decide⟩
theorem d_L_2099 : decode YL.2.1 2099 = .ok (.pop, 1) ∧ 2099 + 1 = 2100 := ⟨dB_old_26_m41_3_dec_4.2.2.2.2.2.2.2.2.2.2.2.2.2.2.2.2.2.2.2.2.2.2.2.1, by decide⟩
theorem d_L_2100 : decode YL.2.1 2100 = .ok (.aload_n 2, 1) ∧ 2100 + 1 = 2101 := ⟨dB_old_26_m41_3_dec_4.2.2.2.2.2.2.2.2.2.2.2.2.2.2.2.2.2.2.2.2.2.2.2.2.1, by decide⟩
theorem d_L_2101 : decode YL.2.1 2101 = .ok (.aload_n 0, 1) ∧ 2101 + 1 = 2102 := ⟨dB_old_26_m41_3_dec_4.2.2.2.2.2.2.2.2.2.2.2.2.2.2.2.2.2.2.2.2.2.2.2.2.2.1, by decide⟩
theorem d_L_2102 : decode YL.2.1 2102 = .ok (.iload_n 3, 1) ∧ 2102 + 1 = 2103 := ⟨dB_old_26_m41_3_dec_4.2.2.2.2.2.2.2.2.2.2.2.2.2.2.2.2.2.2.2.2.2.2.2.2.2.2.1, by decide⟩
theorem d_L_2103 : decode YL.2.1 2103 = .ok (.iconst 1, 1) ∧ 2103 + 1 = 2104 := ⟨dB_old_26_m41_3_dec_4.2.2.2.2.2.2.2.2.2.2.2.2.2.2.2.2.2.2.2.2.2.2.2.2.2.2.2.1, by decide⟩
theorem d_L_2104 : decode YL.2.1 2104 = .ok (.iadd, 1) ∧ 2104 + 1 = 2105 := ⟨dB_old_26_m41_3_dec_4.2.2.2.2.2.2.2.2.2.2.2.2.2.2.2.2.2.2.2.2.2.2.2.2.2.2.2.2.1, by decide⟩
theorem d_L_2105 : decode YL.2.1 2105 = .ok (.iaload, 1) ∧ 2105 + 1 = 2106 := ⟨dB_old_26_m41_3_dec_4.2.2.2.2.2.2.2.2.2.2.2.2.2.2.2.2.2.2.2.2.2.2.2.2.2.2.2.2.2.1, by decide⟩
theorem dB_old_26_m41_3_dec_5 : dAll YL.2.1 [(2106, (.aload_n 0, 1)), (2107, (.iload_n 3, 1)), (2108, (.iconst 2, 1)), (2109, (.iadd, 1)), (2110, (.iaload, 1)), (2111, (.invokevirtual 210, 3)), (2114, (.pop, 1)), (2115, (.goto 1361, 3)), (2118, (.aload_n 1, 1)), (2119, (.aload_n 0, 1)), (2120, (.iload_n 3, 1)), (2121, (.iconst 1, 1)), (2122, (.iadd, 1)), (2123, (.iaload, 1)), (2124, (.aload_n 0, 1)), (2125, (.iload_n 3, 1)), (2126, (.iconst 2, 1)), (2127, (.iadd, 1)), (2128, (.iaload, 1)), (2129, (.aload_n 0, 1)), (2130, (.iload_n 3, 1)), (2131, (.iconst 3, 1)), (2132, (.iadd, 1)), (2133, (.iaload, 1)), (2134, (.aload_n 0, 1)), (2135, (.iload_n 3, 1)), (2136, (.iconst 4, 1)), (2137, (.iadd, 1)), (2138, (.iaload, 1)), (2139, (.invokevirtual 211, 3))] := dAll_of (by decide +kernel)
theorem d_L_2106 : decode YL.2.1 2106 = .ok (.aload_n 0, 1) ∧ 2106 + 1 = 2107 := ⟨dB_old_26_m41_3_dec_5.1, by decide⟩
theorem d_L_2107 : decode YL.2.1 2107 = .ok (.iload_n 3, 1) ∧ 2107 + 1 = 2108 := ⟨dB_old_26_m41_3_dec_5.2.1, by decide⟩
theorem d_L_2108 : decode YL.2.1 2108 = .ok (.iconst 2, 1) ∧ 2108 + 1 = 2109 := ⟨dB_old_26_m41_3_dec_5.2.2.1, by decide⟩
theorem d_L_2109 : decode YL.2.1 2109 = .ok (.iadd, 1) ∧ 2109 + 1 = 2110 := ⟨dB_old_26_m41_3_dec_5.2.2.2.1, by decide⟩
theorem d_L_2110 : decode YL.2.1 2110 = .ok (.iaload, 1) ∧ 2110 + 1 = 2111 := ⟨dB_old_26_m41_3_dec_5.2.2.2.2.1, by decide⟩
theorem d_L_2111 : decode YL.2.1 2111 = .ok (.invokevirtual 210, 3) ∧ 2111 + 3 = 2114 := ⟨dB_old_26_m41_3_dec_5.2.2.2.2.2.1, by decide⟩
theorem d_L_2114 : decode YL.2.1 2114 = .ok (.pop, 1) ∧ 2114 + 1 = 2115 := ⟨dB_old_26_m41_3_dec_5.2.2.2.2.2.2.1, by decide⟩
theorem d_L_2115 : decode YL.2.1 2115 = .ok (.goto 1361, 3) ∧ ((2115 : Nat) : Int) + 1361 = ((3476 : Nat) : Int) ∧ 2115 + 3 = 2118 := ⟨dB_old_26_m41_3_dec_5.2.2.2.2.2.2.2.1, by decide⟩
theorem d_L_2118 : decode YL.2.1 2118 = .ok (.aload_n 1, 1) ∧ 2118 + 1 = 2119 := ⟨dB_old_26_m41_3_dec_5.2.2.2.2.2.2.2.2.1, by decide⟩
theorem d_L_2119 : decode YL.2.1 2119 = .ok (.aload_n 0, 1) ∧ 2119 + 1 = 2120 := ⟨dB_old_26_m41_3_dec_5.2.2.2.2.2.2.2.2.2.1, by decide⟩
theorem d_L_2120 : decode YL.2.1 2120 = .ok (.iload_n 3, 1) ∧ 2120 + 1 = 2121 := ⟨dB_old_26_m41_3_dec_5.2.2.2.2.2.2.2.2.2.2.1, by decide⟩
theorem d_L_2121 : decode YL.2.1 2121 = .ok (.iconst 1, 1) ∧ 2121 + 1 = 2122 := ⟨dB_old_26_m41_3_dec_5.2.2.2.2.2.2.2.2.2.2.2.1, by decide⟩
theorem d_L_2122 : decode YL.2.1 2122 = .ok (.iadd, 1) ∧ 2122 + 1 = 2123 := ⟨dB_old_26_m41_3_dec_5.2.2.2.2.2.2.2.2.2.2.2.2.1, by decide⟩
theorem d_L_2123 : decode YL.2.1 2123 = .ok (.iaload, 1) ∧ 2123 + 1 = 2124 := ⟨dB_old_26_m41_3_dec_5.2.2.2.2.2.2.2.2.2.2.2.2.2.1, by decide⟩
theorem d_L_2124 : decode YL.2.1 2124 = .ok (.aload_n 0, 1) ∧ 2124 + 1 = 2125 := ⟨dB_old_26_m41_3_dec_5.2.2.2.2.2.2.2.2.2.2.2.2.2.2.1, by decide⟩
theorem d_L_2125 : decode YL.2.1 2125 = .ok (.iload_n 3, 1) ∧ 2125 + 1 = 2126 := ⟨dB_old_26_m41_3_dec_5.2.2.2.2.2.2.2.2.2.2.2.2.2.2.2.1, by decide⟩
theorem d_L_2126 : decode YL.2.1 2126 = .ok (.iconst 2, 1) ∧ 2126 + 1 = 2127 := ⟨dB_old_26_m41_3_dec_5.2.2.2.2.2.2.2.2.2.2.2.2.2.2.2.2.1, by decide⟩
theorem d_L_2127 : decode YL.2.1 2127 = .ok (.iadd, 1) ∧ 2127 + 1 = 2128 := ⟨dB_old_26_m41_3_dec_5.2.2.2.2.2.2.2.2.2.2.2.2.2.2.2.2.2.1, by decide⟩
theorem d_L_2128 : decode YL.2.1 2128 = .ok (.iaload, 1) ∧ 2128 + 1 = 2129 := ⟨dB_old_26_m41_3_dec_5.2.2.2.2.2.2.2.2.2.2.2.2.2.2.2.2.2.2.1, by decide⟩
theorem d_L_2129 : decode YL.2.1 2129 = .ok (.aload_n 0, 1) ∧ 2129 + 1 = 2130 := ⟨dB_old_26_m41_3_dec_5.2.2.2.2.2.2.2.2.2.2.2.2.2.2.2.2.2.2.2.1, by decide⟩
theorem d_L_2130 : decode YL.2.1 2130 = .ok (.iload_n 3, 1) ∧ 2130 + 1 = 2131 := ⟨dB_old_26_m41_3_dec_5.2.2.2.2.2.2.2.2.2.2.2.2.2.2.2.2.2.2.2.2.1, by decide⟩
theorem d_L_2131 : decode YL.2.1 2131 = .ok (.iconst 3, 1) ∧ 2131 + 1 = 2132 := ⟨dB_old_26_m41_3_dec_5.2.2.2.2.2.2.2.2.2.2.2.2.2.2.2.2.2.2.2.2.2.1, by decide⟩
theorem d_L_2132 : decode YL.2.1 2132 = .ok (.iadd, 1) ∧ 2132 + 1 = 2133 := ⟨dB_old_26_m41_3_dec_5.2.2.2.2.2.2.2.2.2.2.2.2.2.2.2.2.2.2.2.2.2.2.1, by decide⟩
theorem d_L_2133 : decode YL.2.1 2133 = .ok (.iaload, 1) ∧ 2133 + 1 = 2134 := ⟨dB_old_26_m41_3_dec_5.2.2.2.2.2.2.2.2.2.2.2.2.2.2.2.2.2.2.2.2.2.2.2.1, by decide⟩
theorem d_L_2134 : decode YL.2.1 2134 = .ok (.aload_n 0, 1) ∧ 2134 + 1 = 2135 := ⟨dB_old_26_m41_3_dec_5.2.2.2.2.2.2.2.2.2.2.2.2.2.2.2.2.2.2.2.2.2.2.2.2.1, by decide⟩
theorem d_L_2135 : decode YL.2.1 2135 = .ok (.iload_n 3, 1) ∧ 2135 + 1 = 2136 := ⟨dB_old_26_m41_3_dec_5.2.2.2.2.2.2.2.2.2.2.2.2.2.2.2.2.2.2.2.2.2.2.2.2.2.1, by decide⟩
theorem d_L_2136 : decode YL.2.1 2136 = .ok (.iconst 4, 1) ∧ 2136 + 1 = 2137 := ⟨dB_old_26_m41_3_dec_5.2.2.2.2.2.2.2.2.2.2.2.2.2.2.2.2.2.2.2.2.2.2.2.2.2.2.1, by decide⟩
theorem d_L_2137 : decode YL.2.1 2137 = .ok (.iadd, 1) ∧ 2137 + 1 = 2138 := ⟨dB_old_26_m41_3_dec_5.2.2.2.2.2.2.2.2.2.2.2.2.2.2.2.2.2.2.2.2.2.2.2.2.2.2.2.1, by decide⟩
theorem d_L_2138 : decode YL.2.1 2138 = .ok (.iaload, 1) ∧ 2138 + 1 = 2139 := ⟨dB_old_26_m41_3_dec_5.2.2.2.2.2.2.2.2.2.2.2.2.2.2.2.2.2.2.2.2.2.2.2.2.2.2.2.2.1, by decide⟩
theorem d_L_2139 : decode YL.2.1 2139 = .ok (.invokevirtual 211, 3) ∧ 2139 + 3 = 2142 := ⟨dB_old_26_m41_3_dec_5.2.2.2.2.2.2.2.2.2.2.2.2.2.2.2.2.2.2.2.2.2.2.2.2.2.2.2.2.2.1, by decide⟩
theorem dB_old_26_m41_3_dec_6 : dAll YL.2.1 [(2142, (.pop, 1)), (2143, (.aload_n 2, 1)), (2144, (.aload_n 0, 1)), (2145, (.iload_n 3, 1)), (2146, (.iconst 1, 1)), (2147, (.iadd, 1)), (2148, (.iaload, 1)), (2149, (.aload_n 0, 1)), (2150, (.iload_n 3, 1)), (2151, (.iconst 2, 1)), (2152, (.iadd, 1)), (2153, (.iaload, 1)), (2154, (.aload_n 0, 1)), (2155, (.iload_n 3, 1)), (2156, (.iconst 3, 1)), (2157, (.iadd, 1)), (2158, (.iaload, 1)), (2159, (.aload_n 0, 1)), (2160, (.iload_n 3, 1)), (2161, (.iconst 4, 1)), (2162, (.iadd, 1)), (2163, (.iaload, 1)), (2164, (.invokevirtual 214, 3)), (2167, (.pop, 1)), (2168, (.goto 1308, 3)), (2171, (.aload_n 1, 1)), (2172, (.aload_n 0, 1)), (2173, (.iload_n 3, 1)), (2174, (.iconst 1, 1)), (2175, (.iadd, 1))] := dAll_of (by decide +kernel)
theorem d_L_2142 : decode YL.2.1 2142 = .ok (.pop, 1) ∧ 2142 + 1 = 2143 := ⟨dB_old_26_m41_3_dec_6.1, by decide⟩
theorem d_L_2143 : decode YL.2.1 2143 = .ok (.aload_n 2, 1) ∧ 2143 + 1 = 2144 := ⟨dB_old_26_m41_3_dec_6.2.1, by decide⟩
theorem d_L_2144 : decode YL.2.1 2144 = .ok (.aload_n 0, 1) ∧ 2144 + 1 = 2145 := ⟨dB_old_26_m41_3_dec_6.2.2.1, by decide⟩
theorem d_L_2145 : decode YL.2.1 2145 = .ok (.iload_n 3, 1) ∧ 2145 + 1 = 2146 := ⟨dB_old_26_m41_3_dec_6.2.2.2.1, by decide⟩
theorem d_L_2146 : decode YL.2.1 2146 = .ok (.iconst 1, 1) ∧ 2146 + 1 = 2147 := ⟨dB_old_26_m41_3_dec_6.2.2.2.2.1, by decide⟩
theorem d_L_2147 : decode YL.2.1 2147 = .ok (.iadd, 1) ∧ 2147 + 1 = 2148 := ⟨dB_old_26_m41_3_dec_6.2.2.2.2.2.1, by decide⟩
theorem d_L_2148 : decode YL.2.1 2148 = .ok (.iaload, 1) ∧ 2148 + 1 = 2149 := ⟨dB_old_26_m41_3_dec_6.2.2.2.2.2.2.1, by decide⟩
theorem d_L_2149 : decode YL.2.1 2149 = .ok (.aload_n 0, 1) ∧ 2149 + 1 = 2150 := ⟨dB_old_26_m41_3_dec_6.2.2.2.2.2.2.2.1, by decide⟩
theorem d_L_2150 : decode YL.2.1 2150 = .ok (.iload_n 3, 1) ∧ 2150 + 1 = 2151 := ⟨dB_old_26_m41_3_dec_6.2.2.2.2.2.2.2.2.1, by decide⟩
theorem d_L_2151 : decode YL.2.1 2151 = .ok (.iconst 2, 1) ∧ 2151 + 1 = 2152 := ⟨dB_old_26_m41_3_dec_6.2.2.2.2.2.2.2.2.2.1, by decide⟩
theorem d_L_2152 : decode YL.2.1 2152 = .ok (.iadd, 1) ∧ 2152 + 1 = 2153 := ⟨dB_old_26_m41_3_dec_6.2.2.2.2.2.2.2.2.2.2.1, by decide⟩
theorem d_L_2153 : decode YL.2.1 2153 = .ok (.iaload, 1) ∧ 2153 + 1 = 2154 := ⟨dB_old_26_m41_3_dec_6.2.2.2.2.2.2.2.2.2.2.2.1, by decide⟩
theorem d_L_2154 : decode YL.2.1 2154 = .ok (.aload_n 0, 1) ∧ 2154 + 1 = 2155 := ⟨dB_old_26_m41_3_dec_6.2.2.2.2.2.2.2.2.2.2.2.2.1, by decide⟩
theorem d_L_2155 : decode YL.2.1 2155 = .ok (.iload_n 3, 1) ∧ 2155 + 1 = 2156 := ⟨dB_old_26_m41_3_dec_6.2.2.2.2.2.2.2.2.2.2.2.2.2.1, by decide⟩
theorem d_L_2156 : decode YL.2.1 2156 = .ok (.iconst 3, 1) ∧ 2156 + 1 = 2157 := ⟨dB_old_26_m41_3_dec_6.2.2.2.2.2.2.2.2.2.2.2.2.2.2.1, by decide⟩
theorem d_L_2157 : decode YL.2.1 2157 = .ok (.iadd, 1) ∧ 2157 + 1 = 2158 := ⟨dB_old_26_m41_3_dec_6.2.2.2.2.2.2.2.2.2.2.2.2.2.2.2.1, by decide⟩
theorem d_L_2158 : decode YL.2.1 2158 = .ok (.iaload, 1) ∧ 2158 + 1 = 2159 := ⟨dB_old_26_m41_3_dec_6.2.2.2.2.2.2.2.2.2.2.2.2.2.2.2.2.1, by decide⟩
theorem d_L_2159 : decode YL.2.1 2159 = .ok (.aload_n 0, 1) ∧ 2159 + 1 = 2160 := ⟨dB_old_26_m41_3_dec_6.2.2.2.2.2.2.2.2.2.2.2.2.2.2.2.2.2.1, by decide⟩
theorem d_L_2160 : decode YL.2.1 2160 = .ok (.iload_n 3, 1) ∧ 2160 + 1 = 2161 := ⟨dB_old_26_m41_3_dec_6.2.2.2.2.2.2.2.2.2.2.2.2.2.2.2.2.2.2.1, by decide⟩
theorem d_L_2161 : decode YL.2.1 2161 = .ok (.iconst 4, 1) ∧ 2161 + 1 = 2162 := ⟨dB_old_26_m41_3_dec_6.2.2.2.2.2.2.2.2.2.2.2.2.2.2.2.2.2.2.2.1, by decide⟩
theorem d_L_2162 : decode YL.2.1 2162 = .ok (.iadd, 1) ∧ 2162 + 1 = 2163 := ⟨dB_old_26_m41_3_dec_6.2.2.2.2.2.2.2.2.2.2.2.2.2.2.2.2.2.2.2.2.1, by decide⟩
theorem d_L_2163 : decode YL.2.1 2163 = .ok (.iaload, 1) ∧ 2163 + 1 = 2164 := ⟨dB_old_26_m41_3_dec_6.2.2.2.2.2.2.2.2.2.2.2.2.2.2.2.2.2.2.2.2.2.1, by decide⟩
theorem d_L_2164 : decode YL.2.1 2164 = .ok (.invokevirtual 214, 3) ∧ 2164 + 3 = 2167 := ⟨dB_old_26_m41_3_dec_6.2.2.2.2.2.2.2.2.2.2.2.2.2.2.2.2.2.2.2.2.2.2.1, by decide⟩
theorem d_L_2167 : decode YL.2.1 2167 = .ok (.pop, 1) ∧ 2167 + 1 = 2168 := ⟨dB_old_26_m41_3_dec_6.2.2.2.2.2.2.2.2.2.2.2.2.2.2.2.2.2.2.2.2.2.2.2.1, by decide⟩
theorem d_L_2168 : decode YL.2.1 2168 = .ok (.goto 1308, 3) ∧ ((2168 : Nat) : Int) + 1308 = ((3476 : Nat) : Int) ∧ 2168 + 3 = 2171 := ⟨dB_old_26_m41_3_dec_6.2.2.2.2.2.2.2.2.2.2.2.2.2.2.2.2.2.2.2.2.2.2.2.2.1, by decide⟩
theorem d_L_2171 : decode YL.2.1 2171 = .ok (.aload_n 1, 1) ∧ 2171 + 1 = 2172 := ⟨dB_old_26_m41_3_dec_6.2.2.2.2.2.2.2.2.2.2.2.2.2.2.2.2.2.2.2.2.2.2.2.2.2.1, by decide⟩
theorem d_L_2172 : decode YL.2.1 2172 = .ok (.aload_n 0, 1) ∧ 2172 + 1 = 2173 := ⟨dB_old_26_m41_3_dec_6.2.2.2.2.2.2.2.2.2.2.2.2.2.2.2.2.2.2.2.2.2.2.2.2.2.2.1, by decide⟩
theorem d_L_2173 : decode YL.2.1 2173 = .ok (.iload_n 3, 1) ∧ 2173 + 1 = 2174 := ⟨dB_old_26_m41_3_dec_6.2.2.2.2.2.2.2.2.2.2.2.2.2.2.2.2.2.2.2.2.2.2.2.2.2.2.2.1, by decide⟩
theorem d_L_2174 : decode YL.2.1 2174 = .ok (.iconst 1, 1) ∧ 2174 + 1 = 2175 := ⟨dB_old_26_m41_3_dec_6.2.2.2.2.2.2.2.2.2.2.2.2.2.2.2.2.2.2.2.2.2.2.2.2.2.2.2.2.1, by decide⟩
theorem d_L_2175 : decode YL.2.1 2175 = .ok (.iadd, 1) ∧ 2175 + 1 = 2176 := ⟨dB_old_26_m41_3_dec_6.2.2.2.2.2.2.2.2.2.2.2.2.2.2.2.2.2.2.2.2.2.2.2.2.2.2.2.2.2.1, by decide⟩
theorem dB_old_26_m41_3_dec_7 : dAll YL.2.1 [(2176, (.iaload, 1)), (2177, (.aload_n 0, 1)), (2178, (.iload_n 3, 1)), (2179, (.iconst 2, 1)), (2180, (.iadd, 1)), (2181, (.iaload, 1)), (2182, (.aload_n 0, 1)), (2183, (.iload_n 3, 1)), (2184, (.iconst 3, 1)), (2185, (.iadd, 1)), (2186, (.iaload, 1)), (2187, (.aload_n 0, 1)), (2188, (.iload_n 3, 1)), (2189, (.iconst 4, 1)), (2190, (.iadd, 1)), (2191, (.iaload, 1)), (2192, (.invokevirtual 215, 3)), (2195, (.pop, 1)), (2196, (.aload_n 2, 1)), (2197, (.aload_n 0, 1)), (2198, (.iload_n 3, 1)), (2199, (.iconst 1, 1)), (2200, (.iadd, 1)), (2201, (.iaload, 1)), (2202, (.aload_n 0, 1)), (2203, (.iload_n 3, 1)), (2204, (.iconst 2, 1)), (2205, (.iadd, 1)), (2206, (.iaload, 1)), (2207, (.aload_n 0, 1))] := dAll_of (by decide +kernel)
theorem d_L_2176 : decode YL.2.1 2176 = .ok (.iaload, 1) ∧ 2176 + 1 = 2177 := ⟨dB_old_26_m41_3_dec_7.1, by decide⟩
theorem d_L_2177 : decode YL.2.1 2177 = .ok (.aload_n 0, 1) ∧ 2177 + 1 = 2178 := ⟨dB_old_26_m41_3_dec_7.2.1, by decide⟩
theorem d_L_2178 : decode YL.2.1 2178 = .ok (.iload_n 3, 1) ∧ 2178 + 1 = 2179 := ⟨dB_old_26_m41_3_dec_7.2.2.1, by decide⟩
theorem d_L_2179 : decode YL.2.1 2179 = .ok (.iconst 2, 1) ∧ 2179 + 1 = 2180 := ⟨dB_old_26_m41_3_dec_7.2.2.2.1, by decide⟩
theorem d_L_2180 : decode YL.2.1 2180 = .ok (.iadd, 1) ∧ 2180 + 1 = 2181 := ⟨dB_old_26_m41_3_dec_7.2.2.2.2.1, by decide⟩
theorem d_L_2181 : decode YL.2.1 2181 = .ok (.iaload, 1) ∧ 2181 + 1 = 2182 := ⟨dB_old_26_m41_3_dec_7.2.2.2.2.2.1, by decide⟩
theorem d_L_2182 : decode YL.2.1 2182 = .ok (.aload_n 0, 1) ∧ 2182 + 1 = 2183 := ⟨dB_old_26_m41_3_dec_7.2.2.2.2.2.2.1, by decide⟩
theorem d_L_2183 : decode YL.2.1 2183 = .ok (.iload_n 3, 1) ∧ 2183 + 1 = 2184 := ⟨dB_old_26_m41_3_dec_7.2.2.2.2.2.2.2.1, by decide⟩
theorem d_L_2184 : decode YL.2.1 2184 = .ok (.iconst 3, 1) ∧ 2184 + 1 = 2185 := ⟨dB_old_26_m41_3_dec_7.2.2.2.2.2.2.2.2.1, by decide⟩
theorem d_L_2185 : decode YL.2.1 2185 = .ok (.iadd, 1) ∧ 2185 + 1 = 2186 := ⟨dB_old_26_m41_3_dec_7.2.2.2.2.2.2.2.2.2.1, by decide⟩
theorem d_L_2186 : decode YL.2.1 2186 = .ok (.iaload, 1) ∧ 2186 + 1 = 2187 := ⟨dB_old_26_m41_3_dec_7.2.2.2.2.2.2.2.2.2.2.1, by decide⟩
theorem d_L_2187 : decode YL.2.1 2187 = .ok (.aload_n 0, 1) ∧ 2187 + 1 = 2188 := ⟨dB_old_26_m41_3_dec_7.2.2.2.2.2.2.2.2.2.2.2.1, by decide⟩
theorem d_L_2188 : decode YL.2.1 2188 = .ok (.iload_n 3, 1) ∧ 2188 + 1 = 2189 := ⟨dB_old_26_m41_3_dec_7.2.2.2.2.2.2.2.2.2.2.2.2.1, by decide⟩
theorem d_L_2189 : decode YL.2.1 2189 = .ok (.iconst 4, 1) ∧ 2189 + 1 = 2190 := ⟨dB_old_26_m41_3_dec_7.2.2.2.2.2.2.2.2.2.2.2.2.2.1, by decide⟩
theorem d_L_2190 : decode YL.2.1 2190 = .ok (.iadd, 1) ∧ 2190 + 1 = 2191 := ⟨dB_old_26_m41_3_dec_7.2.2.2.2.2.2.2.2.2.2.2.2.2.2.1, by decide⟩
theorem d_L_2191 : decode YL.2.1 2191 = .ok (.iaload, 1) ∧ 2191 + 1 = 2192 := ⟨dB_old_26_m41_3_dec_7.2.2.2.2.2.2.2.2.2.2.2.2.2.2.2.1, by decide⟩
theorem d_L_2192 : decode YL.2.1 2192 = .ok (.invokevirtual 215, 3) ∧ 2192 + 3 = 2195 := ⟨dB_old_26_m41_3_dec_7.2.2.2.2.2.2.2.2.2.2.2.2.2.2.2.2.1, by decide⟩
theorem d_L_2195 : decode YL.2.1 2195 = .ok (.pop, 1) ∧ 2195 + 1 = 2196 := ⟨dB_old_26_m41_3_dec_7.2.2.2.2.2.2.2.2.2.2.2.2.2.2.2.2.2.1, by decide⟩
theorem d_L_2196 : decode YL.2.1 2196 = .ok (.aload_n 2, 1) ∧ 2196 + 1 = 2197 := ⟨dB_old_26_m41_3_dec_7.2.2.2.2.2.2.2.2.2.2.2.2.2.2.2.2.2.2.1, by decide⟩
theorem d_L_2197 : decode YL.2.1 2197 = .ok (.aload_n 0, 1) ∧ 2197 + 1 = 2198 := ⟨dB_old_26_m41_3_dec_7.2.2.2.2.2.2.2.2.2.2.2.2.2.2.2.2.2.2.2.1, by decide⟩
theorem d_L_2198 : decode YL.2.1 2198 = .ok (.iload_n 3, 1) ∧ 2198 + 1 = 2199 := ⟨dB_old_26_m41_3_dec_7.2.2.2.2.2.2.2.2.2.2.2.2.2.2.2.2.2.2.2.2.1, by decide⟩
theorem d_L_2199 : decode YL.2.1 2199 = .ok (.iconst 1, 1) ∧ 2199 + 1 = 2200 := ⟨dB_old_26_m41_3_dec_7.2.2.2.2.2.2.2.2.2.2.2.2.2.2.2.2.2.2.2.2.2.1, by decide⟩
theorem d_L_2200 : decode YL.2.1 2200 = .ok (.iadd, 1) ∧ 2200 + 1 = 2201 := ⟨dB_old_26_m41_3_dec_7.2.2.2.2.2.2.2.2.2.2.2.2.2.2.2.2.2.2.2.2.2.2.1, by decide⟩
theorem d_L_2201 : decode YL.2.1 2201 = .ok (.iaload, 1) ∧ 2201 + 1 = 2202 := ⟨dB_old_26_m41_3_dec_7.2.2.2.2.2.2.2.2.2.2.2.2.2.2.2.2.2.2.2.2.2.2.2.1, by decide⟩
theorem d_L_2202 : decode YL.2.1 2202 = .ok (.aload_n 0, 1) ∧ 2202 + 1 = 2203 := ⟨dB_old_26_m41_3_dec_7.2.2.2.2.2.2.2.2.2.2.2.2.2.2.2.2.2.2.2.2.2.2.2.2.1, by decide⟩
theorem d_L_2203 : decode YL.2.1 2203 = .ok (.iload_n 3, 1) ∧ 2203 + 1 = 2204 := ⟨dB_old_26_m41_3_dec_7.2.2.2.2.2.2.2.2.2.2.2.2.2.2.2.2.2.2.2.2.2.2.2.2.2.1, by decide⟩
theorem d_L_2204 : decode YL.2.1 2204 = .ok (.iconst 2, 1) ∧ 2204 + 1 = 2205 := ⟨dB_old_26_m41_3_dec_7.2.2.2.2.2.2.2.2.2.2.2.2.2.2.2.2.2.2.2.2.2.2.2.2.2.2.1, by decide⟩
theorem d_L_2205 : decode YL.2.1 2205 = .ok (.iadd, 1) ∧ 2205 + 1 = 2206 := ⟨dB_old_26_m41_3_dec_7.2.2.2.2.2.2.2.2.2.2.2.2.2.2.2.2.2.2.2.2.2.2.2.2.2.2.2.1, by decide⟩
theorem d_L_2206 : decode YL.2.1 2206 = .ok (.iaload, 1) ∧ 2206 + 1 = 2207 := ⟨dB_old_26_m41_3_dec_7.2.2.2.2.2.2.2.2.2.2.2.2.2.2.2.2.2.2.2.2.2.2.2.2.2.2.2.2.1, by decide⟩
theorem d_L_2207 : decode YL.2.1 2207 = .ok (.aload_n 0, 1) ∧ 2207 + 1 = 2208 := ⟨dB_old_26_m41_3_dec_7.2.2.2.2.2.2.2.2.2.2.2.2.2.2.2.2.2.2.2.2.2.2.2.2.2.2.2.2.2.1, by decide⟩
theorem dB_old_26_m41_3_dec_8 : dAll YL.2.1 [(2208, (.iload_n 3, 1)), (2209, (.iconst 3, 1)), (2210, (.iadd, 1)), (2211, (.iaload, 1)), (2212, (.aload_n 0, 1)), (2213, (.iload_n 3, 1)), (2214, (.iconst 4, 1)), (2215, (.iadd, 1)), (2216, (.iaload, 1)), (2217, (.invokevirtual 218, 3)), (2220, (.pop, 1)), (2221, (.goto 1255, 3)), (2224, (.aload_n 1, 1)), (2225, (.aload_n 0, 1)), (2226, (.iload_n 3, 1)), (2227, (.iconst 1, 1)), (2228, (.iadd, 1)), (2229, (.iaload, 1)), (2230, (.aload_n 0, 1)), (2231, (.iload_n 3, 1)), (2232, (.iconst 2, 1)), (2233, (.iadd, 1)), (2234, (.iaload, 1)), (2235, (.aload_n 0, 1)), (2236, (.iload_n 3, 1)), (2237, (.iconst 3, 1)), (2238, (.iadd, 1)), (2239, (.iaload, 1)), (2240, (.invokevirtual 219, 3)), (2243, (.pop, 1))] := dAll_of (by decide +kernel)
theorem d_L_2208 : decode YL.2.1 2208 = .ok (.iload_n 3, 1) ∧ 2208 + 1 = 2209 := ⟨dB_old_26_m41_3_dec_8.1, by decide⟩
theorem d_L_2209 : decode YL.2.1 2209 = .ok (.iconst 3, 1) ∧ 2209 + 1 = 2210 := ⟨dB_old_26_m41_3_dec_8.2.1, by decide⟩
theorem d_L_2210 : decode YL.2.1 2210 = .ok (.iadd, 1) ∧ 2210 + 1 = 2211 := ⟨dB_old_26_m41_3_dec_8.2.2.1, by decide⟩
theorem d_L_2211 : decode YL.2.1 2211 = .ok (.iaload, 1) ∧ 2211 + 1 = 2212 := ⟨dB_old_26_m41_3_dec_8.2.2.2.1, by decide⟩
theorem d_L_2212 : decode YL.2.1 2212 = .ok (.aload_n 0, 1) ∧ 2212 + 1 = 2213 := ⟨dB_old_26_m41_3_dec_8.2.2.2.2.1, by decide⟩
theorem d_L_2213 : decode YL.2.1 2213 = .ok (.iload_n 3, 1) ∧ 2213 + 1 = 2214 := ⟨dB_old_26_m41_3_dec_8.2.2.2.2.2.1, by decide⟩
theorem d_L_2214 : decode YL.2.1 2214 = .ok (.iconst 4, 1) ∧ 2214 + 1 = 2215 := ⟨dB_old_26_m41_3_dec_8.2.2.2.2.2.2.1, by decide⟩
theorem d_L_2215 : decode YL.2.1 2215 = .ok (.iadd, 1) ∧ 2215 + 1 = 2216 := ⟨dB_old_26_m41_3_dec_8.2.2.2.2.2.2.2.1, by decide⟩
theorem d_L_2216 : decode YL.2.1 2216 = .ok (.iaload, 1) ∧ 2216 + 1 = 2217 := ⟨dB_old_26_m41_3_dec_8.2.2.2.2.2.2.2.2.1, by decide⟩
theorem d_L_2217 : decode YL.2.1 2217 = .ok (.invokevirtual 218, 3) ∧ 2217 + 3 = 2220 := ⟨dB_old_26_m41_3_dec_8.2.2.2.2.2.2.2.2.2.1, by decide⟩
theorem d_L_2220 : decode YL.2.1 2220 = .ok (.pop, 1) ∧ 2220 + 1 = 2221 := ⟨dB_old_26_m41_3_dec_8.2.2.2.2.2.2.2.2.2.2.1, by decide⟩
theorem d_L_2221 : decode YL.2.1 2221 = .ok (.goto 1255, 3) ∧ ((2221 : Nat) : Int) + 1255 = ((3476 : Nat) : Int) ∧ 2221 + 3 = 2224 := ⟨dB_old_26_m41_3_dec_8.2.2.2.2.2.2.2.2.2.2.2.1, by decide⟩
theorem d_L_2224 : decode YL.2.1 2224 = .ok (.aload_n 1, 1) ∧ 2224 + 1 = 2225 := ⟨dB_old_26_m41_3_dec_8.2.2.2.2.2.2.2.2.2.2.2.2.1, by decide⟩
theorem d_L_2225 : decode YL.2.1 2225 = .ok (.aload_n 0, 1) ∧ 2225 + 1 = 2226 := ⟨dB_old_26_m41_3_dec_8.2.2.2.2.2.2.2.2.2.2.2.2.2.1, by decide⟩
theorem d_L_2226 : decode YL.2.1 2226 = .ok (.iload_n 3, 1) ∧ 2226 + 1 = 2227 := ⟨dB_old_26_m41_3_dec_8.2.2.2.2.2.2.2.2.2.2.2.2.2.2.1, by decide⟩
theorem d_L_2227 : decode YL.2.1 2227 = .ok (.iconst 1, 1) ∧ 2227 + 1 = 2228 := ⟨dB_old_26_m41_3_dec_8.2.2.2.2.2.2.2.2.2.2.2.2.2.2.2.1, by decide⟩
theorem d_L_2228 : decode YL.2.1 2228 = .ok (.iadd, 1) ∧ 2228 + 1 = 2229 := ⟨dB_old_26_m41_3_dec_8.2.2.2.2.2.2.2.2.2.2.2.2.2.2.2.2.1, by decide⟩
theorem d_L_2229 : decode YL.2.1 2229 = .ok (.iaload, 1) ∧ 2229 + 1 = 2230 := ⟨dB_old_26_m41_3_dec_8.2.2.2.2.2.2.2.2.2.2.2.2.2.2.2.2.2.1, by decide⟩
theorem d_L_2230 : decode YL.2.1 2230 = .ok (.aload_n 0, 1) ∧ 2230 + 1 = 2231 := ⟨dB_old_26_m41_3_dec_8.2.2.2.2.2.2.2.2.2.2.2.2.2.2.2.2.2.2.1, by decide⟩
theorem d_L_2231 : decode YL.2.1 2231 = .ok (.iload_n 3, 1) ∧ 2231 + 1 = 2232 := ⟨dB_old_26_m41_3_dec_8.2.2.2.2.2.2.2.2.2.2.2.2.2.2.2.2.2.2.2.1, by decide⟩
theorem d_L_2232 : decode YL.2.1 2232 = .ok (.iconst 2, 1) ∧ 2232 + 1 = 2233 := ⟨dB_old_26_m41_3_dec_8.2.2.2.2.2.2.2.2.2.2.2.2.2.2.2.2.2.2.2.2.1, by decide⟩
theorem d_L_2233 : decode YL.2.1 2233 = .ok (.iadd, 1) ∧ 2233 + 1 = 2234 := ⟨dB_old_26_m41_3_dec_8.2.2.2.2.2.2.2.2.2.2.2.2.2.2.2.2.2.2.2.2.2.1, by decide⟩
theorem d_L_2234 : decode YL.2.1 2234 = .ok (.iaload, 1) ∧ 2234 + 1 = 2235 := ⟨dB_old_26_m41_3_dec_8.2.2.2.2.2.2.2.2.2.2.2.2.2.2.2.2.2.2.2.2.2.2.1, by decide⟩
theorem d_L_2235 : decode YL.2.1 2235 = .ok (.aload_n 0, 1) ∧ 2235 + 1 = 2236 := ⟨dB_old_26_m41_3_dec_8.2.2.2.2.2.2.2.2.2.2.2.2.2.2.2.2.2.2.2.2.2.2.2.1, by decide⟩
theorem d_L_2236 : decode YL.2.1 2236 = .ok (.iload_n 3, 1) ∧ 2236 + 1 = 2237 := ⟨dB_old_26_m41_3_dec_8.2.2.2.2.2.2.2.2.2.2.2.2.2.2.2.2.2.2.2.2.2.2.2.2.1, by decide⟩
theorem d_L_2237 : decode YL.2.1 2237 = .ok (.iconst 3, 1) ∧ 2237 + 1 = 2238 := ⟨dB_old_26_m41_3_dec_8.2.2.2.2.2.2.2.2.2.2.2.2.2.2.2.2.2.2.2.2.2.2.2.2.2.1, by decide⟩
theorem d_L_2238 : decode YL.2.1 2238 = .ok (.iadd, 1) ∧ 2238 + 1 = 2239 := ⟨dB_old_26_m41_3_dec_8.2.2.2.2.2.2.2.2.2.2.2.2.2.2.2.2.2.2.2.2.2.2.2.2.2.2.1, by decide⟩
theorem d_L_2239 : decode YL.2.1 2239 = .ok (.iaload, 1) ∧ 2239 + 1 = 2240 := ⟨dB_old_26_m41_3_dec_8.2.2.2.2.2.2.2.2.2.2.2.2.2.2.2.2.2.2.2.2.2.2.2.2.2.2.2.1, by decide⟩
theorem d_L_2240 : decode YL.2.1 2240 = .ok (.invokevirtual 219, 3) ∧ 2240 + 3 = 2243 := ⟨dB_old_26_m41_3_dec_8.2.2.2.2.2.2.2.2.2.2.2.2.2.2.2.2.2.2.2.2.2.2.2.2.2.2.2.2.1, by decide⟩
theorem d_L_2243 : decode YL.2.1 2243 = .ok (.pop, 1) ∧ 2243 + 1 = 2244 := ⟨dB_old_26_m41_3_dec_8.2.2.2.2.2.2.2.2.2.2.2.2.2.2.2.2.2.2.2.2.2.2.2.2.2.2.2.2.2.1, by decide⟩
theorem dB_old_26_m41_3_dec_9 : dAll YL.2.1 [(2244, (.aload_n 2, 1)), (2245, (.aload_n 0, 1)), (2246, (.iload_n 3, 1)), (2247, (.iconst 1, 1)), (2248, (.iadd, 1)), (2249, (.iaload, 1)), (2250, (.aload_n 0, 1)), (2251, (.iload_n 3, 1)), (2252, (.iconst 2, 1)), (2253, (.iadd, 1)), (2254, (.iaload, 1)), (2255, (.aload_n 0, 1)), (2256, (.iload_n 3, 1)), (2257, (.iconst 3, 1)), (2258, (.iadd, 1)), (2259, (.iaload, 1)), (2260, (.invokevirtual 222, 3)), (2263, (.pop, 1)), (2264, (.goto 1212, 3)), (2267, (.aload_n 1, 1)), (2268, (.invokevirtual 223, 3)), (2271, (.pop, 1)), (2272, (.aload_n 2, 1)), (2273, (.invokevirtual 226, 3)), (2276, (.pop, 1)), (2277, (.goto 1199, 3)), (2280, (.aload_n 1, 1)), (2281, (.aload_n 0, 1)), (2282, (.iload_n 3, 1)), (2283, (.iconst 1, 1))] := dAll_of (by decide +kernel)
theorem d_L_2244 : decode YL.2.1 2244 = .ok (.aload_n 2, 1) ∧ 2244 + 1 = 2245 := ⟨dB_old_26_m41_3_dec_9.1, by decide⟩
theorem d_L_2245 : decode YL.2.1 2245 = .ok (.aload_n 0, 1) ∧ 2245 + 1 = 2246 := ⟨dB_old_26_m41_3_dec_9.2.1, by decide⟩
theorem d_L_2246 : decode YL.2.1 2246 = .ok (.iload_n 3, 1) ∧ 2246 + 1 = 2247 := ⟨dB_old_26_m41_3_dec_9.2.2.1, by decide⟩
theorem d_L_2247 : decode YL.2.1 2247 = .ok (.iconst 1, 1) ∧ 2247 + 1 = 2248 := ⟨dB_old_26_m41_3_dec_9.2.2.2.1, by decide⟩
theorem d_L_2248 : decode YL.2.1 2248 = .ok (.iadd, 1) ∧ 2248 + 1 = 2249 := ⟨dB_old_26_m41_3_dec_9.2.2.2.2.1, by decide⟩
theorem d_L_2249 : decode YL.2.1 2249 = .ok (.iaload, 1) ∧ 2249 + 1 = 2250 := ⟨dB_old_26_m41_3_dec_9.2.2.2.2.2.1, by decide⟩
theorem d_L_2250 : decode YL.2.1 2250 = .ok (.aload_n 0, 1) ∧ 2250 + 1 = 2251 := ⟨dB_old_26_m41_3_dec_9.2.2.2.2.2.2.1, by decide⟩
theorem d_L_2251 : decode YL.2.1 2251 = .ok (.iload_n 3, 1) ∧ 2251 + 1 = 2252 := ⟨dB_old_26_m41_3_dec_9.2.2.2.2.2.2.2.1, by decide⟩
theorem d_L_2252 : decode YL.2.1 2252 = .ok (.iconst 2, 1) ∧ 2252 + 1 = 2253 := ⟨dB_old_26_m41_3_dec_9.2.2.2.2.2.2.2.2.1, by decide⟩
theorem d_L_2253 : decode YL.2.1 2253 = .ok (.iadd, 1) ∧ 2253 + 1 = 2254 := ⟨dB_old_26_m41_3_dec_9.2.2.2.2.2.2.2.2.2.1, by decide⟩
theorem d_L_2254 : decode YL.2.1 2254 = .ok (.iaload, 1) ∧ 2254 + 1 = 2255 := ⟨dB_old_26_m41_3_dec_9.2.2.2.2.2.2.2.2.2.2.1, by decide⟩
theorem d_L_2255 : decode YL.2.1 2255 = .ok (.aload_n 0, 1) ∧ 2255 + 1 = 2256 := ⟨dB_old_26_m41_3_dec_9.2.2.2.2.2.2.2.2.2.2.2.1, by decide⟩
theorem d_L_2256 : decode YL.2.1 2256 = .ok (.iload_n 3, 1) ∧ 2256 + 1 = 2257 := ⟨dB_old_26_m41_3_dec_9.2.2.2.2.2.2.2.2.2.2.2.2.1, by decide⟩
theorem d_L_2257 : decode YL.2.1 2257 = .ok (.iconst 3, 1) ∧ 2257 + 1 = 2258 := ⟨dB_old_26_m41_3_dec_9.2.2.2.2.2.2.2.2.2.2.2.2.2.1, by decide⟩
theorem d_L_2258 : decode YL.2.1 2258 = .ok (.iadd, 1) ∧ 2258 + 1 = 2259 := ⟨dB_old_26_m41_3_dec_9.2.2.2.2.2.2.2.2.2.2.2.2.2.2.1, by decide⟩
theorem d_L_2259 : decode YL.2.1 2259 = .ok (.iaload, 1) ∧ 2259 + 1 = 2260 := ⟨dB_old_26_m41_3_dec_9.2.2.2.2.2.2.2.2.2.2.2.2.2.2.2.1, by decide⟩
theorem d_L_2260 : decode YL.2.1 2260 = .ok (.invokevirtual 222, 3) ∧ 2260 + 3 = 2263 := ⟨dB_old_26_m41_3_dec_9.2.2.2.2.2.2.2.2.2.2.2.2.2.2.2.2.1, by decide⟩
theorem d_L_2263 : decode YL.2.1 2263 = .ok (.pop, 1) ∧ 2263 + 1 = 2264 := ⟨dB_old_26_m41_3_dec_9.2.2.2.2.2.2.2.2.2.2.2.2.2.2.2.2.2.1, by decide⟩
theorem d_L_2264 : decode YL.2.1 2264 = .ok (.goto 1212, 3) ∧ ((2264 : Nat) : Int) + 1212 = ((3476 : Nat) : Int) ∧ 2264 + 3 = 2267 := ⟨dB_old_26_m41_3_dec_9.2.2.2.2.2.2.2.2.2.2.2.2.2.2.2.2.2.2.1, by decide⟩
theorem d_L_2267 : decode YL.2.1 2267 = .ok (.aload_n 1, 1) ∧ 2267 + 1 = 2268 := ⟨dB_old_26_m41_3_dec_9.2.2.2.2.2.2.2.2.2.2.2.2.2.2.2.2.2.2.2.1, by decide⟩
theorem d_L_2268 : decode YL.2.1 2268 = .ok (.invokevirtual 223, 3) ∧ 2268 + 3 = 2271 := ⟨dB_old_26_m41_3_dec_9.2.2.2.2.2.2.2.2.2.2.2.2.2.2.2.2.2.2.2.2.1, by decide⟩
theorem d_L_2271 : decode YL.2.1 2271 = .ok (.pop, 1) ∧ 2271 + 1 = 2272 := ⟨dB_old_26_m41_3_dec_9.2.2.2.2.2.2.2.2.2.2.2.2.2.2.2.2.2.2.2.2.2.1, by decide⟩
theorem d_L_2272 : decode YL.2.1 2272 = .ok (.aload_n 2, 1) ∧ 2272 + 1 = 2273 := ⟨dB_old_26_m41_3_dec_9.2.2.2.2.2.2.2.2.2.2.2.2.2.2.2.2.2.2.2.2.2.2.1, by decide⟩
theorem d_L_2273 : decode YL.2.1 2273 = .ok (.invokevirtual 226, 3) ∧ 2273 + 3 = 2276 := ⟨dB_old_26_m41_3_dec_9.2.2.2.2.2.2.2.2.2.2.2.2.2.2.2.2.2.2.2.2.2.2.2.1, by decide⟩
theorem d_L_2276 : decode YL.2.1 2276 = .ok (.pop, 1) ∧ 2276 + 1 = 2277 := ⟨dB_old_26_m41_3_dec_9.2.2.2.2.2.2.2.2.2.2.2.2.2.2.2.2.2.2.2.2.2.2.2.2.1, by decide⟩
theorem d_L_2277 : decode YL.2.1 2277 = .ok (.goto 1199, 3) ∧ ((2277 : Nat) : Int) + 1199 = ((3476 : Nat) : Int) ∧ 2277 + 3 = 2280 := ⟨dB_old_26_m41_3_dec_9.2.2.2.2.2.2.2.2.2.2.2.2.2.2.2.2.2.2.2.2.2.2.2.2.2.1, by decide⟩
theorem d_L_2280 : decode YL.2.1 2280 = .ok (.aload_n 1, 1) ∧ 2280 + 1 = 2281 := ⟨dB_old_26_m41_3_dec_9.2.2.2.2.2.2.2.2.2.2.2.2.2.2.2.2.2.2.2.2.2.2.2.2.2.2.1, by decide⟩
theorem d_L_2281 : decode YL.2.1 2281 = .ok (.aload_n 0, 1) ∧ 2281 + 1 = 2282 := ⟨dB_old_26_m41_3_dec_9.2.2.2.2.2.2.2.2.2.2.2.2.2.2.2.2.2.2.2.2.2.2.2.2.2.2.2.1, by decide⟩
theorem d_L_2282 : decode YL.2.1 2282 = .ok (.iload_n 3, 1) ∧ 2282 + 1 = 2283 := ⟨dB_old_26_m41_3_dec_9.2.2.2.2.2.2.2.2.2.2.2.2.2.2.2.2.2.2.2.2.2.2.2.2.2.2.2.2.1, by decide⟩
theorem d_L_2283 : decode YL.2.1 2283 = .ok (.iconst 1, 1) ∧ 2283 + 1 = 2284 := ⟨dB_old_26_m41_3_dec_9.2.2.2.2.2.2.2.2.2.2.2.2.2.2.2.2.2.2.2.2.2.2.2.2.2.2.2.2.2.1, by decide⟩
theorem dB_old_26_m41_3_dec_10 : dAll YL.2.1 [(2284, (.iadd, 1)), (2285, (.iaload, 1)), (2286, (.aload_n 0, 1)), (2287, (.iload_n 3, 1)), (2288, (.iconst 2, 1)), (2289, (.iadd, 1)), (2290, (.iaload, 1)), (2291, (.aload_n 0, 1)), (2292, (.iload_n 3, 1)), (2293, (.iconst 3, 1)), (2294, (.iadd, 1)), (2295, (.iaload, 1)), (2296, (.aload_n 0, 1)), (2297, (.iload_n 3, 1)), (2298, (.iconst 4, 1)), (2299, (.iadd, 1)), (2300, (.iaload, 1)), (2301, (.aload_n 0, 1)), (2302, (.iload_n 3, 1)), (2303, (.iconst 5, 1)), (2304, (.iadd, 1)), (2305, (.iaload, 1)), (2306, (.aload_n 0, 1)), (2307, (.iload_n 3, 1)), (2308, (.bipush 6, 2)), (2310, (.iadd, 1)), (2311, (.iaload, 1)), (2312, (.aload_n 0, 1)), (2313, (.iload_n 3, 1)), (2314, (.bipush 7, 2))] := dAll_of (by decide +kernel)
theorem d_L_2284 : decode YL.2.1 2284 = .ok (.iadd, 1) ∧ 2284 + 1 = 2285 := ⟨dB_old_26_m41_3_dec_10.1, by decide⟩
theorem d_L_2285 : decode YL.2.1 2285 = .ok (.iaload, 1) ∧ 2285 + 1 = 2286 := ⟨dB_old_26_m41_3_dec_10.2.1, by decide⟩
theorem d_L_2286 : decode YL.2.1 2286 = .ok (.aload_n 0, 1) ∧ 2286 + 1 = 2287 := ⟨dB_old_26_m41_3_dec_10.2.2.1, by decide⟩
theorem d_L_2287 : decode YL.2.1 2287 = .ok (.iload_n 3, 1) ∧ 2287 + 1 = 2288 := ⟨dB_old_26_m41_3_dec_10.2.2.2.1, by decide⟩
theorem d_L_2288 : decode YL.2.1 2288 = .ok (.iconst 2, 1) ∧ 2288 + 1 = 2289 := ⟨dB_old_26_m41_3_dec_10.2.2.2.2.1, by decide⟩
theorem d_L_2289 : decode YL.2.1 2289 = .ok (.iadd, 1) ∧ 2289 + 1 = 2290 := ⟨dB_old_26_m41_3_dec_10.2.2.2.2.2.1, by decide⟩
theorem d_L_2290 : decode YL.2.1 2290 = .ok (.iaload, 1) ∧ 2290 + 1 = 2291 := ⟨dB_old_26_m41_3_dec_10.2.2.2.2.2.2.1, by decide⟩
theorem d_L_2291 : decode YL.2.1 2291 = .ok (.aload_n 0, 1) ∧ 2291 + 1 = 2292 := ⟨dB_old_26_m41_3_dec_10.2.2.2.2.2.2.2.1, by decide⟩
theorem d_L_2292 : decode YL.2.1 2292 = .ok (.iload_n 3, 1) ∧ 2292 + 1 = 2293 := ⟨dB_old_26_m41_3_dec_10.2.2.2.2.2.2.2.2.1, by decide⟩
theorem d_L_2293 : decode YL.2.1 2293 = .ok (.iconst 3, 1) ∧ 2293 + 1 = 2294 := ⟨dB_old_26_m41_3_dec_10.2.2.2.2.2.2.2.2.2.1, by decide⟩
theorem d_L_2294 : decode YL.2.1 2294 = .ok (.iadd, 1) ∧ 2294 + 1 = 2295 := ⟨dB_old_26_m41_3_dec_10.2.2.2.2.2.2.2.2.2.2.1, by decide⟩
theorem d_L_2295 : decode YL.2.1 2295 = .ok (.iaload, 1) ∧ 2295 + 1 = 2296 := ⟨dB_old_26_m41_3_dec_10.2.2.2.2.2.2.2.2.2.2.2.1, by decide⟩
theorem d_L_2296 : decode YL.2.1 2296 = .ok (.aload_n 0, 1) ∧ 2296 + 1 = 2297 := ⟨dB_old_26_m41_3_dec_10.2.2.2.2.2.2.2.2.2.2.2.2.1, by decide⟩
theorem d_L_2297 : decode YL.2.1 2297 = .ok (.iload_n 3, 1) ∧ 2297 + 1 = 2298 := ⟨dB_old_26_m41_3_dec_10.2.2.2.2.2.2.2.2.2.2.2.2.2.1, by decide⟩
theorem d_L_2298 : decode YL.2.1 2298 = .ok (.iconst 4, 1) ∧ 2298 + 1 = 2299 := ⟨dB_old_26_m41_3_dec_10.2.2.2.2.2.2.2.2.2.2.2.2.2.2.1, by decide⟩
theorem d_L_2299 : decode YL.2.1 2299 = .ok (.iadd, 1) ∧ 2299 + 1 = 2300 := ⟨dB_old_26_m41_3_dec_10.2.2.2.2.2.2.2.2.2.2.2.2.2.2.2.1, by decide⟩
theorem d_L_2300 : decode YL.2.1 2300 = .ok (.iaload, 1) ∧ 2300 + 1 = 2301 := ⟨dB_old_26_m41_3_dec_10.2.2.2.2.2.2.2.2.2.2.2.2.2.2.2.2.1, by decide⟩
theorem d_L_2301 : decode YL.2.1 2301 = .ok (.aload_n 0, 1) ∧ 2301 + 1 = 2302 := ⟨dB_old_26_m41_3_dec_10.2.2.2.2.2.2.2.2.2.2.2.2.2.2.2.2.2.1, by decide⟩
theorem d_L_2302 : decode YL.2.1 2302 = .ok (.iload_n 3, 1) ∧ 2302 + 1 = 2303 := ⟨dB_old_26_m41_3_dec_10.2.2.2.2.2.2.2.2.2.2.2.2.2.2.2.2.2.2.1, by decide⟩
theorem d_L_2303 : decode YL.2.1 2303 = .ok (.iconst 5, 1) ∧ 2303 + 1 = 2304 := ⟨dB_old_26_m41_3_dec_10.2.2.2.2.2.2.2.2.2.2.2.2.2.2.2.2.2.2.2.1, by decide⟩
theorem d_L_2304 : decode YL.2.1 2304 = .ok (.iadd, 1) ∧ 2304 + 1 = 2305 := ⟨dB_old_26_m41_3_dec_10.2.2.2.2.2.2.2.2.2.2.2.2.2.2.2.2.2.2.2.2.1, by decide⟩
theorem d_L_2305 : decode YL.2.1 2305 = .ok (.iaload, 1) ∧ 2305 + 1 = 2306 := ⟨dB_old_26_m41_3_dec_10.2.2.2.2.2.2.2.2.2.2.2.2.2.2.2.2.2.2.2.2.2.1, by decide⟩
theorem d_L_2306 : decode YL.2.1 2306 = .ok (.aload_n 0, 1) ∧ 2306 + 1 = 2307 := ⟨dB_old_26_m41_3_dec_10.2.2.2.2.2.2.2.2.2.2.2.2.2.2.2.2.2.2.2.2.2.2.1, by decide⟩
theorem d_L_2307 : decode YL.2.1 2307 = .ok (.iload_n 3, 1) ∧ 2307 + 1 = 2308 := ⟨dB_old_26_m41_3_dec_10.2.2.2.2.2.2.2.2.2.2.2.2.2.2.2.2.2.2.2.2.2.2.2.1, by decide⟩
theorem d_L_2308 : decode YL.2.1 2308 = .ok (.bipush 6, 2) ∧ 2308 + 2 = 2310 := ⟨dB_old_26_m41_3_dec_10.2.2.2.2.2.2.2.2.2.2.2.2.2.2.2.2.2.2.2.2.2.2.2.2.1, by decide⟩
theorem d_L_2310 : decode YL.2.1 2310 = .ok (.iadd, 1) ∧ 2310 + 1 = 2311 := ⟨dB_old_26_m41_3_dec_10.2.2.2.2.2.2.2.2.2.2.2.2.2.2.2.2.2.2.2.2.2.2.2.2.2.1, by decide⟩
theorem d_L_2311 : decode YL.2.1 2311 = .ok (.iaload, 1) ∧ 2311 + 1 = 2312 := ⟨dB_old_26_m41_3_dec_10.2.2.2.2.2.2.2.2.2.2.2.2.2.2.2.2.2.2.2.2.2.2.2.2.2.2.1, by decide⟩
theorem d_L_2312 : decode YL.2.1 2312 = .ok (.aload_n 0, 1) ∧ 2312 + 1 = 2313 := ⟨dB_old_26_m41_3_dec_10.2.2.2.2.2.2.2.2.2.2.2.2.2.2.2.2.2.2.2.2.2.2.2.2.2.2.2.1, by decide⟩
theorem d_L_2313 : decode YL.2.1 2313 = .ok (.iload_n 3, 1) ∧ 2313 + 1 = 2314 := ⟨dB_old_26_m41_3_dec_10.2.2.2.2.2.2.2.2.2.2.2.2.2.2.2.2.2.2.2.2.2.2.2.2.2.2.2.2.1, by decide⟩
theorem d_L_2314 : decode YL.2.1 2314 = .ok (.bipush 7, 2) ∧ 2314 + 2 = 2316 := ⟨dB_old_26_m41_3_dec_10.2.2.2.2.2.2.2.2.2.2.2.2.2.2.2.2.2.2.2.2.2.2.2.2.2.2.2.2.2.1, by decide⟩
theorem dB_old_26_m41_3_dec_11 : dAll YL.2.1 [(2316, (.iadd, 1)), (2317, (.iaload, 1)), (2318, (.invokevirtual 227, 3)), (2321, (.pop, 1)), (2322, (.aload_n 2, 1)), (2323, (.aload_n 0, 1)), (2324, (.iload_n 3, 1)), (2325, (.iconst 1, 1)), (2326, (.iadd, 1)), (2327, (.iaload, 1)), (2328, (.aload_n 0, 1)), (2329, (.iload_n 3, 1)), (2330, (.iconst 2, 1)), (2331, (.iadd, 1)), (2332, (.iaload, 1)), (2333, (.aload_n 0, 1)), (2334, (.iload_n 3, 1)), (2335, (.iconst 3, 1)), (2336, (.iadd, 1)), (2337, (.iaload, 1)), (2338, (.aload_n 0, 1)), (2339, (.iload_n 3, 1)), (2340, (.iconst 4, 1)), (2341, (.iadd, 1)), (2342, (.iaload, 1)), (2343, (.aload_n 0, 1)), (2344, (.iload_n 3, 1)), (2345, (.iconst 5, 1)), (2346, (.iadd, 1)), (2347, (.iaload, 1))] := dAll_of (by decide +kernel)
theorem d_L_2316 : decode YL.2.1 2316 = .ok (.iadd, 1) ∧ 2316 + 1 = 2317 := ⟨dB_old_26_m41_3_dec_11.1, by decide⟩
theorem d_L_2317 : decode YL.2.1 2317 = .ok (.iaload, 1) ∧ 2317 + 1 = 2318 := ⟨dB_old_26_m41_3_dec_11.2.1, by decide⟩
theorem d_L_2318 : decode YL.2.1 2318 = .ok (.invokevirtual 227, 3) ∧ 2318 + 3 = 2321 := ⟨dB_old_26_m41_3_dec_11.2.2.1, by decide⟩
theorem d_L_2321 : decode YL.2.1 2321 = .ok (.pop, 1) ∧ 2321 + 1 = 2322 := ⟨dB_old_26_m41_3_dec_11.2.2.2.1, by decide⟩
theorem d_L_2322 : decode YL.2.1 2322 = .ok (.aload_n 2, 1) ∧ 2322 + 1 = 2323 := ⟨dB_old_26_m41_3_dec_11.2.2.2.2.1, by decide⟩
theorem d_L_2323 : decode YL.2.1 2323 = .ok (.aload_n 0, 1) ∧ 2323 + 1 = 2324 := ⟨dB_old_26_m41_3_dec_11.2.2.2.2.2.1, by decide⟩
theorem d_L_2324 : decode YL.2.1 2324 = .ok (.iload_n 3, 1) ∧ 2324 + 1 = 2325 := ⟨dB_old_26_m41_3_dec_11.2.2.2.2.2.2.1, by decide⟩
theorem d_L_2325 : decode YL.2.1 2325 = .ok (.iconst 1, 1) ∧ 2325 + 1 = 2326 := ⟨dB_old_26_m41_3_dec_11.2.2.2.2.2.2.2.1, by decide⟩
theorem d_L_2326 : decode YL.2.1 2326 = .ok (.iadd, 1) ∧ 2326 + 1 = 2327 := ⟨dB_old_26_m41_3_dec_11.2.2.2.2.2.2.2.2.1, by decide⟩
theorem d_L_2327 : decode YL.2.1 2327 = .ok (.iaload, 1) ∧ 2327 + 1 = 2328 := ⟨dB_old_26_m41_3_dec_11.2.2.2.2.2.2.2.2.2.1, by decide⟩
theorem d_L_2328 : decode YL.2.1 2328 = .ok (.aload_n 0, 1) ∧ 2328 + 1 = 2329 := ⟨dB_old_26_m41_3_dec_11.2.2.2.2.2.2.2.2.2.2.1, by decide⟩
theorem d_L_2329 : decode YL.2.1 2329 = .ok (.iload_n 3, 1) ∧ 2329 + 1 = 2330 := ⟨dB_old_26_m41_3_dec_11.2.2.2.2.2.2.2.2.2.2.2.1, by decide⟩
theorem d_L_2330 : decode YL.2.1 2330 = .ok (.iconst 2, 1) ∧ 2330 + 1 = 2331 := ⟨dB_old_26_m41_3_dec_11.2.2.2.2.2.2.2.2.2.2.2.2.1, by decide⟩
theorem d_L_2331 : decode YL.2.1 2331 = .ok (.iadd, 1) ∧ 2331 + 1 = 2332 := ⟨dB_old_26_m41_3_dec_11.2.2.2.2.2.2.2.2.2.2.2.2.2.1, by decide⟩
theorem d_L_2332 : decode YL.2.1 2332 = .ok (.iaload, 1) ∧ 2332 + 1 = 2333 := ⟨dB_old_26_m41_3_dec_11.2.2.2.2.2.2.2.2.2.2.2.2.2.2.1, by decide⟩
theorem d_L_2333 : decode YL.2.1 2333 = .ok (.aload_n 0, 1) ∧ 2333 + 1 = 2334 := ⟨dB_old_26_m41_3_dec_11.2.2.2.2.2.2.2.2.2.2.2.2.2.2.2.1, by decide⟩
theorem d_L_2334 : decode YL.2.1 2334 = .ok (.iload_n 3, 1) ∧ 2334 + 1 = 2335 := ⟨dB_old_26_m41_3_dec_11.2.2.2.2.2.2.2.2.2.2.2.2.2.2.2.2.1, by decide⟩
theorem d_L_2335 : decode YL.2.1 2335 = .ok (.iconst 3, 1) ∧ 2335 + 1 = 2336 := ⟨dB_old_26_m41_3_dec_11.2.2.2.2.2.2.2.2.2.2.2.2.2.2.2.2.2.1, by decide⟩
theorem d_L_2336 : decode YL.2.1 2336 = .ok (.iadd, 1) ∧ 2336 + 1 = 2337 := ⟨dB_old_26_m41_3_dec_11.2.2.2.2.2.2.2.2.2.2.2.2.2.2.2.2.2.2.1, by decide⟩
theorem d_L_2337 : decode YL.2.1 2337 = .ok (.iaload, 1) ∧ 2337 + 1 = 2338 := ⟨dB_old_26_m41_3_dec_11.2.2.2.2.2.2.2.2.2.2.2.2.2.2.2.2.2.2.2.1, by decide⟩
theorem d_L_2338 : decode YL.2.1 2338 = .ok (.aload_n 0, 1) ∧ 2338 + 1 = 2339 := ⟨dB_old_26_m41_3_dec_11.2.2.2.2.2.2.2.2.2.2.2.2.2.2.2.2.2.2.2.2.1, by decide⟩
theorem d_L_2339 : decode YL.2.1 2339 = .ok (.iload_n 3, 1) ∧ 2339 + 1 = 2340 := ⟨dB_old_26_m41_3_dec_11.2.2.2.2.2.2.2.2.2.2.2.2.2.2.2.2.2.2.2.2.2.1, by decide⟩
theorem d_L_2340 : decode YL.2.1 2340 = .ok (.iconst 4, 1) ∧ 2340 + 1 = 2341 := ⟨dB_old_26_m41_3_dec_11.2.2.2.2.2.2.2.2.2.2.2.2.2.2.2.2.2.2.2.2.2.2.1, by decide⟩
theorem d_L_2341 : decode YL.2.1 2341 = .ok (.iadd, 1) ∧ 2341 + 1 = 2342 := ⟨dB_old_26_m41_3_dec_11.2.2.2.2.2.2.2.2.2.2.2.2.2.2.2.2.2.2.2.2.2.2.2.1, by decide⟩
theorem d_L_2342 : decode YL.2.1 2342 = .ok (.iaload, 1) ∧ 2342 + 1 = 2343 := ⟨dB_old_26_m41_3_dec_11.2.2.2.2.2.2.2.2.2.2.2.2.2.2.2.2.2.2.2.2.2.2.2.2.1, by decide⟩
theorem d_L_2343 : decode YL.2.1 2343 = .ok (.aload_n 0, 1) ∧ 2343 + 1 = 2344 := ⟨dB_old_26_m41_3_dec_11.2.2.2.2.2.2.2.2.2.2.2.2.2.2.2.2.2.2.2.2.2.2.2.2.2.1, by decide⟩
theorem d_L_2344 : decode YL.2.1 2344 = .ok (.iload_n 3, 1) ∧ 2344 + 1 = 2345 := ⟨dB_old_26_m41_3_dec_11.2.2.2.2.2.2.2.2.2.2.2.2.2.2.2.2.2.2.2.2.2.2.2.2.2.2.1, by decide⟩
theorem d_L_2345 : decode YL.2.1 2345 = .ok (.iconst 5, 1) ∧ 2345 + 1 = 2346 := ⟨dB_old_26_m41_3_dec_11.2.2.2.2.2.2.2.2.2.2.2.2.2.2.2.2.2.2.2.2.2.2.2.2.2.2.2.1, by decide⟩
theorem d_L_2346 : decode YL.2.1 2346 = .ok (.iadd, 1) ∧ 2346 + 1 = 2347 := ⟨dB_old_26_m41_3_dec_11.2.2.2.2.2.2.2.2.2.2.2.2.2.2.2.2.2.2.2.2.2.2.2.2.2.2.2.2.1, by decide⟩
theorem d_L_2347 : decode YL.2.1 2347 = .ok (.iaload, 1) ∧ 2347 + 1 = 2348 := ⟨dB_old_26_m41_3_dec_11.2.2.2.2.2.2.2.2.2.2.2.2.2.2.2.2.2.2.2.2.2.2.2.2.2.2.2.2.2.1, by decide⟩
theorem dB_old_26_m41_3_dec_12 : dAll YL.2.1 [(2348, (.aload_n 0, 1)), (2349, (.iload_n 3, 1)), (2350, (.bipush 6, 2)), (2352, (.iadd, 1)), (2353, (.iaload, 1)), (2354, (.aload_n 0, 1)), (2355, (.iload_n 3, 1)), (2356, (.bipush 7, 2)), (2358, (.iadd, 1)), (2359, (.iaload, 1)), (2360, (.invokevirtual 230, 3)), (2363, (.pop, 1)), (2364, (.goto 1112, 3)), (2367, (.aload_n 1, 1)), (2368, (.aload_n 0, 1)), (2369, (.iload_n 3, 1)), (2370, (.iconst 1, 1)), (2371, (.iadd, 1)), (2372, (.iaload, 1)), (2373, (.aload_n 0, 1)), (2374, (.iload_n 3, 1)), (2375, (.iconst 2, 1)), (2376, (.iadd, 1)), (2377, (.iaload, 1)), (2378, (.invokevirtual 231, 3)), (2381, (.pop, 1)), (2382, (.aload_n 2, 1)), (2383, (.aload_n 0, 1)), (2384, (.iload_n 3, 1)), (2385, (.iconst 1, 1))] := dAll_of (by decide +kernel)
theorem d_L_2348 : decode YL.2.1 2348 = .ok (.aload_n 0, 1) ∧ 2348 + 1 = 2349 := ⟨dB_old_26_m41_3_dec_12.1, by decide⟩
theorem d_L_2349 : decode YL.2.1 2349 = .ok (.iload_n 3, 1) ∧ 2349 + 1 = 2350 := ⟨dB_old_26_m41_3_dec_12.2.1, by decide⟩
theorem d_L_2350 : decode YL.2.1 2350 = .ok (.bipush 6, 2) ∧ 2350 + 2 = 2352 := ⟨dB_old_26_m41_3_dec_12.2.2.1, by decide⟩
theorem d_L_2352 : decode YL.2.1 2352 = .ok (.iadd, 1) ∧ 2352 + 1 = 2353 := ⟨dB_old_26_m41_3_dec_12.2.2.2.1, by decide⟩
theorem d_L_2353 : decode YL.2.1 2353 = .ok (.iaload, 1) ∧ 2353 + 1 = 2354 := ⟨dB_old_26_m41_3_dec_12.2.2.2.2.1, by decide⟩
theorem d_L_2354 : decode YL.2.1 2354 = .ok (.aload_n 0, 1) ∧ 2354 + 1 = 2355 := ⟨dB_old_26_m41_3_dec_12.2.2.2.2.2.1, by decide⟩
theorem d_L_2355 : decode YL.2.1 2355 = .ok (.iload_n 3, 1) ∧ 2355 + 1 = 2356 := ⟨dB_old_26_m41_3_dec_12.2.2.2.2.2.2.1, by decide⟩
theorem d_L_2356 : decode YL.2.1 2356 = .ok (.bipush 7, 2) ∧ 2356 + 2 = 2358 := ⟨dB_old_26_m41_3_dec_12.2.2.2.2.2.2.2.1, by decide⟩
theorem d_L_2358 : decode YL.2.1 2358 = .ok (.iadd, 1) ∧ 2358 + 1 = 2359 := ⟨dB_old_26_m41_3_dec_12.2.2.2.2.2.2.2.2.1, by decide⟩
theorem d_L_2359 : decode YL.2.1 2359 = .ok (.iaload, 1) ∧ 2359 + 1 = 2360 := ⟨dB_old_26_m41_3_dec_12.2.2.2.2.2.2.2.2.2.1, by decide⟩
theorem d_L_2360 : decode YL.2.1 2360 = .ok (.invokevirtual 230, 3) ∧ 2360 + 3 = 2363 := ⟨dB_old_26_m41_3_dec_12.2.2.2.2.2.2.2.2.2.2.1, by decide⟩
theorem d_L_2363 : decode YL.2.1 2363 = .ok (.pop, 1) ∧ 2363 + 1 = 2364 := ⟨dB_old_26_m41_3_dec_12.2.2.2.2.2.2.2.2.2.2.2.1, by decide⟩
theorem d_L_2364 : decode YL.2.1 2364 = .ok (.goto 1112, 3) ∧ ((2364 : Nat) : Int) + 1112 = ((3476 : Nat) : Int) ∧ 2364 + 3 = 2367 := ⟨dB_old_26_m41_3_dec_12.2.2.2.2.2.2.2.2.2.2.2.2.1, by decide⟩
theorem d_L_2367 : decode YL.2.1 2367 = .ok (.aload_n 1, 1) ∧ 2367 + 1 = 2368 := ⟨dB_old_26_m41_3_dec_12.2.2.2.2.2.2.2.2.2.2.2.2.2.1, by decide⟩
theorem d_L_2368 : decode YL.2.1 2368 = .ok (.aload_n 0, 1) ∧ 2368 + 1 = 2369 := ⟨dB_old_26_m41_3_dec_12.2.2.2.2.2.2.2.2.2.2.2.2.2.2.1, by decide⟩
theorem d_L_2369 : decode YL.2.1 2369 = .ok (.iload_n 3, 1) ∧ 2369 + 1 = 2370 := ⟨dB_old_26_m41_3_dec_12.2.2.2.2.2.2.2.2.2.2.2.2.2.2.2.1, by decide⟩
theorem d_L_2370 : decode YL.2.1 2370 = .ok (.iconst 1, 1) ∧ 2370 + 1 = 2371 := ⟨dB_old_26_m41_3_dec_12.2.2.2.2.2.2.2.2.2.2.2.2.2.2.2.2.1, by decide⟩
theorem d_L_2371 : decode YL.2.1 2371 = .ok (.iadd, 1) ∧ 2371 + 1 = 2372 := ⟨dB_old_26_m41_3_dec_12.2.2.2.2.2.2.2.2.2.2.2.2.2.2.2.2.2.1, by decide⟩
theorem d_L_2372 : decode YL.2.1 2372 = .ok (.iaload, 1) ∧ 2372 + 1 = 2373 := ⟨dB_old_26_m41_3_dec_12.2.2.2.2.2.2.2.2.2.2.2.2.2.2.2.2.2.2.1, by decide⟩
theorem d_L_2373 : decode YL.2.1 2373 = .ok (.aload_n 0, 1) ∧ 2373 + 1 = 2374 := ⟨dB_old_26_m41_3_dec_12.2.2.2.2.2.2.2.2.2.2.2.2.2.2.2.2.2.2.2.1, by decide⟩
theorem d_L_2374 : decode YL.2.1 2374 = .ok (.iload_n 3, 1) ∧ 2374 + 1 = 2375 := ⟨dB_old_26_m41_3_dec_12.2.2.2.2.2.2.2.2.2.2.2.2.2.2.2.2.2.2.2.2.1, by decide⟩
theorem d_L_2375 : decode YL.2.1 2375 = .ok (.iconst 2, 1) ∧ 2375 + 1 = 2376 := ⟨dB_old_26_m41_3_dec_12.2.2.2.2.2.2.2.2.2.2.2.2.2.2.2.2.2.2.2.2.2.1, by decide⟩
theorem d_L_2376 : decode YL.2.1 2376 = .ok (.iadd, 1) ∧ 2376 + 1 = 2377 := ⟨dB_old_26_m41_3_dec_12.2.2.2.2.2.2.2.2.2.2.2.2.2.2.2.2.2.2.2.2.2.2.1, by decide⟩
theorem d_L_2377 : decode YL.2.1 2377 = .ok (.iaload, 1) ∧ 2377 + 1 = 2378 := ⟨dB_old_26_m41_3_dec_12.2.2.2.2.2.2.2.2.2.2.2.2.2.2.2.2.2.2.2.2.2.2.2.1, by decide⟩
theorem d_L_2378 : decode YL.2.1 2378 = .ok (.invokevirtual 231, 3) ∧ 2378 + 3 = 2381 := ⟨dB_old_26_m41_3_dec_12.2.2.2.2.2.2.2.2.2.2.2.2.2.2.2.2.2.2.2.2.2.2.2.2.1, by decide⟩
theorem d_L_2381 : decode YL.2.1 2381 = .ok (.pop, 1) ∧ 2381 + 1 = 2382 := ⟨dB_old_26_m41_3_dec_12.2.2.2.2.2.2.2.2.2.2.2.2.2.2.2.2.2.2.2.2.2.2.2.2.2.1, by decide⟩
theorem d_L_2382 : decode YL.2.1 2382 = .ok (.aload_n 2, 1) ∧ 2382 + 1 = 2383 := ⟨dB_old_26_m41_3_dec_12.2.2.2.2.2.2.2.2.2.2.2.2.2.2.2.2.2.2.2.2.2.2.2.2.2.2.1, by decide⟩
theorem d_L_2383 : decode YL.2.1 2383 = .ok (.aload_n 0, 1) ∧ 2383 + 1 = 2384 := ⟨dB_old_26_m41_3_dec_12.2.2.2.2.2.2.2.2.2.2.2.2.2.2.2.2.2.2.2.2.2.2.2.2.2.2.2.1, by decide⟩
theorem d_L_2384 : decode YL.2.1 2384 = .ok (.iload_n 3, 1) ∧ 2384 + 1 = 2385 := ⟨dB_old_26_m41_3_dec_12.2.2.2.2.2.2.2.2.2.2.2.2.2.2.2.2.2.2.2.2.2.2.2.2.2.2.2.2.1, by decide⟩
theorem d_L_2385 : decode YL.2.1 2385 = .ok (.iconst 1, 1) ∧ 2385 + 1 = 2386 := ⟨dB_old_26_m41_3_dec_12.2.2.2.2.2.2.2.2.2.2.2.2.2.2.2.2.2.2.2.2.2.2.2.2.2.2.2.2.2.1, by decide⟩
theorem dB_old_26_m41_3_dec_13 : dAll YL.2.1 [(2386, (.iadd, 1)), (2387, (.iaload, 1)), (2388, (.aload_n 0, 1)), (2389, (.iload_n 3, 1)), (2390, (.iconst 2, 1)), (2391, (.iadd, 1)), (2392, (.iaload, 1)), (2393, (.invokevirtual 234, 3)), (2396, (.pop, 1)), (2397, (.goto 1079, 3)), (2400, (.aload_n 1, 1)), (2401, (.aload_n 0, 1)), (2402, (.iload_n 3, 1)), (2403, (.iconst 1, 1)), (2404, (.iadd, 1)), (2405, (.iaload, 1)), (2406, (.aload_n 0, 1)), (2407, (.iload_n 3, 1)), (2408, (.iconst 2, 1)), (2409, (.iadd, 1)), (2410, (.iaload, 1)), (2411, (.aload_n 0, 1)), (2412, (.iload_n 3, 1)), (2413, (.iconst 3, 1)), (2414, (.iadd, 1)), (2415, (.iaload, 1)), (2416, (.aload_n 0, 1)), (2417, (.iload_n 3, 1)), (2418, (.iconst 4, 1)), (2419, (.iadd, 1))] := dAll_of (by decide +kernel)
theorem d_L_2386 : decode YL.2.1 2386 = .ok (.iadd, 1) ∧ 2386 + 1 = 2387 := ⟨dB_old_26_m41_3_dec_13.1, by decide⟩
theorem d_L_2387 : decode YL.2.1 2387 = .ok (.iaload, 1) ∧ 2387 + 1 = 2388 := ⟨dB_old_26_m41_3_dec_13.2.1, by decide⟩
theorem d_L_2388 : decode YL.2.1 2388 = .ok (.aload_n 0, 1) ∧ 2388 + 1 = 2389 := ⟨dB_old_26_m41_3_dec_13.2.2.1, by decide⟩
theorem d_L_2389 : decode YL.2.1 2389 = .ok (.iload_n 3, 1) ∧ 2389 + 1 = 2390 := ⟨dB_old_26_m41_3_dec_13.2.2.2.1, by decide⟩
theorem d_L_2390 : decode YL.2.1 2390 = .ok (.iconst 2, 1) ∧ 2390 + 1 = 2391 := ⟨dB_old_26_m41_3_dec_13.2.2.2.2.1, by decide⟩
theorem d_L_2391 : decode YL.2.1 2391 = .ok (.iadd, 1) ∧ 2391 + 1 = 2392 := ⟨dB_old_26_m41_3_dec_13.2.2.2.2.2.1, by decide⟩
theorem d_L_2392 : decode YL.2.1 2392 = .ok (.iaload, 1) ∧ 2392 + 1 = 2393 := ⟨dB_old_26_m41_3_dec_13.2.2.2.2.2.2.1, by decide⟩
theorem d_L_2393 : decode YL.2.1 2393 = .ok (.invokevirtual 234, 3) ∧ 2393 + 3 = 2396 := ⟨dB_old_26_m41_3_dec_13.2.2.2.2.2.2.2.1, by decide⟩
theorem d_L_2396 : decode YL.2.1 2396 = .ok (.pop, 1) ∧ 2396 + 1 = 2397 := ⟨dB_old_26_m41_3_dec_13.2.2.2.2.2.2.2.2.1, by decide⟩
theorem d_L_2397 : decode YL.2.1 2397 = .ok (.goto 1079, 3) ∧ ((2397 : Nat) : Int) + 1079 = ((3476 : Nat) : Int) ∧ 2397 + 3 = 2400 := ⟨dB_old_26_m41_3_dec_13.2.2.2.2.2.2.2.2.2.1, by decide⟩
theorem d_L_2400 : decode YL.2.1 2400 = .ok (.aload_n 1, 1) ∧ 2400 + 1 = 2401 := ⟨dB_old_26_m41_3_dec_13.2.2.2.2.2.2.2.2.2.2.1, by decide⟩
theorem d_L_2401 : decode YL.2.1 2401 = .ok (.aload_n 0, 1) ∧ 2401 + 1 = 2402 := ⟨dB_old_26_m41_3_dec_13.2.2.2.2.2.2.2.2.2.2.2.1, by decide⟩
theorem d_L_2402 : decode YL.2.1 2402 = .ok (.iload_n 3, 1) ∧ 2402 + 1 = 2403 := ⟨dB_old_26_m41_3_dec_13.2.2.2.2.2.2.2.2.2.2.2.2.1, by decide⟩
theorem d_L_2403 : decode YL.2.1 2403 = .ok (.iconst 1, 1) ∧ 2403 + 1 = 2404 := ⟨dB_old_26_m41_3_dec_13.2.2.2.2.2.2.2.2.2.2.2.2.2.1, by decide⟩
theorem d_L_2404 : decode YL.2.1 2404 = .ok (.iadd, 1) ∧ 2404 + 1 = 2405 := ⟨dB_old_26_m41_3_dec_13.2.2.2.2.2.2.2.2.2.2.2.2.2.2.1, by decide⟩
theorem d_L_2405 : decode YL.2.1 2405 = .ok (.iaload, 1) ∧ 2405 + 1 = 2406 := ⟨dB_old_26_m41_3_dec_13.2.2.2.2.2.2.2.2.2.2.2.2.2.2.2.1, by decide⟩
theorem d_L_2406 : decode YL.2.1 2406 = .ok (.aload_n 0, 1) ∧ 2406 + 1 = 2407 := ⟨dB_old_26_m41_3_dec_13.2.2.2.2.2.2.2.2.2.2.2.2.2.2.2.2.1, by decide⟩
theorem d_L_2407 : decode YL.2.1 2407 = .ok (.iload_n 3, 1) ∧ 2407 + 1 = 2408 := ⟨dB_old_26_m41_3_dec_13.2.2.2.2.2.2.2.2.2.2.2.2.2.2.2.2.2.1, by decide⟩
theorem d_L_2408 : decode YL.2.1 2408 = .ok (.iconst 2, 1) ∧ 2408 + 1 = 2409 := ⟨dB_old_26_m41_3_dec_13.2.2.2.2.2.2.2.2.2.2.2.2.2.2.2.2.2.2.1, by decide⟩
theorem d_L_2409 : decode YL.2.1 2409 = .ok (.iadd, 1) ∧ 2409 + 1 = 2410 := ⟨dB_old_26_m41_3_dec_13.2.2.2.2.2.2.2.2.2.2.2.2.2.2.2.2.2.2.2.1, by decide⟩
theorem d_L_2410 : decode YL.2.1 2410 = .ok (.iaload, 1) ∧ 2410 + 1 = 2411 := ⟨dB_old_26_m41_3_dec_13.2.2.2.2.2.2.2.2.2.2.2.2.2.2.2.2.2.2.2.2.1, by decide⟩
theorem d_L_2411 : decode YL.2.1 2411 = .ok (.aload_n 0, 1) ∧ 2411 + 1 = 2412 := ⟨dB_old_26_m41_3_dec_13.2.2.2.2.2.2.2.2.2.2.2.2.2.2.2.2.2.2.2.2.2.1, by decide⟩
theorem d_L_2412 : decode YL.2.1 2412 = .ok (.iload_n 3, 1) ∧ 2412 + 1 = 2413 := ⟨dB_old_26_m41_3_dec_13.2.2.2.2.2.2.2.2.2.2.2.2.2.2.2.2.2.2.2.2.2.2.1, by decide⟩
theorem d_L_2413 : decode YL.2.1 2413 = .ok (.iconst 3, 1) ∧ 2413 + 1 = 2414 := ⟨dB_old_26_m41_3_dec_13.2.2.2.2.2.2.2.2.2.2.2.2.2.2.2.2.2.2.2.2.2.2.2.1, by decide⟩
theorem d_L_2414 : decode YL.2.1 2414 = .ok (.iadd, 1) ∧ 2414 + 1 = 2415 := ⟨dB_old_26_m41_3_dec_13.2.2.2.2.2.2.2.2.2.2.2.2.2.2.2.2.2.2.2.2.2.2.2.2.1, by decide⟩
theorem d_L_2415 : decode YL.2.1 2415 = .ok (.iaload, 1) ∧ 2415 + 1 = 2416 := ⟨dB_old_26_m41_3_dec_13.2.2.2.2.2.2.2.2.2.2.2.2.2.2.2.2.2.2.2.2.2.2.2.2.2.1, by decide⟩
theorem d_L_2416 : decode YL.2.1 2416 = .ok (.aload_n 0, 1) ∧ 2416 + 1 = 2417 := ⟨dB_old_26_m41_3_dec_13.2.2.2.2.2.2.2.2.2.2.2.2.2.2.2.2.2.2.2.2.2.2.2.2.2.2.1, by decide⟩
theorem d_L_2417 : decode YL.2.1 2417 = .ok (.iload_n 3, 1) ∧ 2417 + 1 = 2418 := ⟨dB_old_26_m41_3_dec_13.2.2.2.2.2.2.2.2.2.2.2.2.2.2.2.2.2.2.2.2.2.2.2.2.2.2.2.1, by decide⟩
theorem d_L_2418 : decode YL.2.1 2418 = .ok (.iconst 4, 1) ∧ 2418 + 1 = 2419 := ⟨dB_old_26_m41_3_dec_13.2.2.2.2.2.2.2.2.2.2.2.2.2.2.2.2.2.2.2.2.2.2.2.2.2.2.2.2.1, by decide⟩
theorem d_L_2419 : decode YL.2.1 2419 = .ok (.iadd, 1) ∧ 2419 + 1 = 2420 := ⟨dB_old_26_m41_3_dec_13.2.2.2.2.2.2.2.2.2.2.2.2.2.2.2.2.2.2.2.2.2.2.2.2.2.2.2.2.2.1, by decide⟩
theorem dB_old_26_m41_3_dec_14 : dAll YL.2.1 [(2420, (.iaload, 1)), (2421, (.invokevirtual 235, 3)), (2424, (.pop, 1)), (2425, (.aload_n 2, 1)), (2426, (.aload_n 0, 1)), (2427, (.iload_n 3, 1)), (2428, (.iconst 1, 1)), (2429, (.iadd, 1)), (2430, (.iaload, 1)), (2431, (.aload_n 0, 1))] := dAll_of (by decide +kernel)
theorem d_L_2420 : decode YL.2.1 2420 = .ok (.iaload, 1) ∧ 2420 + 1 = 2421 := ⟨dB_old_26_m41_3_dec_14.1, by decide⟩
theorem d_L_2421 : decode YL.2.1 2421 = .ok (.invokevirtual 235, 3) ∧ 2421 + 3 = 2424 := ⟨dB_old_26_m41_3_dec_14.2.1, by decide⟩
theorem d_L_2424 : decode YL.2.1 2424 = .ok (.pop, 1) ∧ 2424 + 1 = 2425 := ⟨dB_old_26_m41_3_dec_14.2.2.1, by decide⟩
theorem d_L_2425 : decode YL.2.1 2425 = .ok (.aload_n 2, 1) ∧ 2425 + 1 = 2426 := ⟨dB_old_26_m41_3_dec_14.2.2.2.1, by decide⟩
theorem d_L_2426 : decode YL.2.1 2426 = .ok (.aload_n 0, 1) ∧ 2426 + 1 = 2427 := ⟨dB_old_26_m41_3_dec_14.2.2.2.2.1, by decide⟩
theorem d_L_2427 : decode YL.2.1 2427 = .ok (.iload_n 3, 1) ∧ 2427 + 1 = 2428 := ⟨dB_old_26_m41_3_dec_14.2.2.2.2.2.1, by decide⟩
theorem d_L_2428 : decode YL.2.1 2428 = .ok (.iconst 1, 1) ∧ 2428 + 1 = 2429 := ⟨dB_old_26_m41_3_dec_14.2.2.2.2.2.2.1, by decide⟩
theorem d_L_2429 : decode YL.2.1 2429 = .ok (.iadd, 1) ∧ 2429 + 1 = 2430 := ⟨dB_old_26_m41_3_dec_14.2.2.2.2.2.2.2.1, by decide⟩
theorem d_L_2430 : decode YL.2.1 2430 = .ok (.iaload, 1) ∧ 2430 + 1 = 2431 := ⟨dB_old_26_m41_3_dec_14.2.2.2.2.2.2.2.2.1, by decide⟩
theorem d_L_2431 : decode YL.2.1 2431 = .ok (.aload_n 0, 1) ∧ 2431 + 1 = 2432 := ⟨dB_old_26_m41_3_dec_14.2.2.2.2.2.2.2.2.2.1, by decide⟩
