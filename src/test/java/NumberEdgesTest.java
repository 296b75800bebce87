/** The edges of numbers, dates and truths, and what a value begins with. */
final class NumberEdgesTest {
    public static void main(String[] args) {
        whatAValueBeginsWith();
        oneToNineDigits();
        theFirstDigitIsNot0();
        oneToSevenHexDigits();
        hexDigitsAreThese();
        hexHasNoSign();
        aSignStandsOnce();
        oneUnderscoreBetweenTwoDigits();
        plusAndMinus0Are0();
        fourDigitsAndAMinusAreADate();
        monthsAre01To12();
        daysAreAsManyAsTheMonthHas();
        februaryHas29InLeapYears();
        aDateIsANumber();
        datesAreDigitsAndMinus();
        trueAndFalse();
        whereANumberCanNotGoOn();
        Due.end();
    }

    private static void is(int kind, String value, int want) {
        for (String text : new String[] {"v=" + value, "v=" + value + "\n", "v=" + value + " # x"}) {
            TableText x = Due.of(text);
            Due.is("kind of " + value, () -> x.down(0), kind);
            Due.is("value of " + value, x::value, want);
        }
        TableText y = Due.of("v=[" + value + "," + value + " ]\nw={x=" + value + ",y=" + value + " }");
        for (int i = 0; i < 4; i++) {
            int[] steps = {i / 2, i % 2};
            Due.is("kind of " + value + " within", () -> Due.walk(y, steps), kind);
            Due.is("value of " + value + " within", y::value, want);
        }
    }

    /** The mark ^ stands where the value is wrong, whatever comes behind it, and wherever the value stands. */
    private static void wrong(String marked) {
        Due.wrongAtMark("v=" + marked);
        Due.wrongAtMark("v= " + marked + "\nw=1");
        Due.wrongAtMark("v=[" + marked + "]");
        Due.wrongAtMark("v=[1, " + marked + ", 1]");
        Due.wrongAtMark("v={w=" + marked + "}");
        Due.wrongAtMark("[t]\nv.w=" + marked);
    }

    private static void whatAValueBeginsWith() {
        for (char c = 33; c <= 126; c++) {
            if ("0123456789+-tf\"'[{".indexOf(c) < 0) {
                Due.wrongAt("v=" + c, 2);
                Due.wrongAt("v= " + c + "1", 3);
                Due.wrongAt("v={w=" + c + "}", 5);
                if (c != ']' && c != '#') {
                    Due.wrongAt("v=[" + c + "]", 3);
                    Due.wrongAt("v=[1," + c + "]", 5);
                }
            }
        }
    }

    private static void oneToNineDigits() {
        String digits = "123456789";
        for (int n = 1; n <= 9; n++) {
            int want = Integer.parseInt(digits.substring(0, n));
            is(1, digits.substring(0, n), want);
            is(1, "+" + digits.substring(0, n), want);
            is(1, "-" + digits.substring(0, n), -want);
        }
        is(1, "999999999", 999999999);
        is(1, "-999999999", -999999999);
        is(1, "100000000", 100000000);
        wrong("123456789^0");
        wrong("+123456789^0");
        wrong("-123456789^0");
        wrong("999999999^9999999999999999999999");
        wrong("100000000^0");
        wrong("1_2_3_4_5_6_7_8_9^0");
        wrong("+^");
        wrong("-^");
        wrong("-^a");
    }

    private static void theFirstDigitIsNot0() {
        is(1, "0", 0);
        for (char c = '0'; c <= '9'; c++) {
            wrong("0^" + c);
            wrong("+0^" + c);
            wrong("-0^" + c);
            if (c != '0') {
                is(1, c + "0", (c - '0') * 10);
            }
        }
        wrong("0^_1");
        wrong("0^_");
        wrong("0^0000");
        wrong("0^123");
    }

    private static void oneToSevenHexDigits() {
        String digits = "1234567";
        for (int n = 1; n <= 7; n++) {
            is(1, "0x" + digits.substring(0, n), Integer.parseInt(digits.substring(0, n), 16));
        }
        is(1, "0xfffffff", 268435455);
        is(1, "0x0", 0);
        is(1, "0x0000000", 0);
        is(1, "0x0000001", 1);
        is(1, "0x1000000", 16777216);
        wrong("0x1234567^8");
        wrong("0x0000000^0");
        wrong("0xfffffff^f");
        wrong("0x1_2_3_4_5_6_7^8");
        Due.wrongAtMark("v=0x^");
        wrong("0x^]");
        wrong("0x^ 1");
    }

    private static void hexDigitsAreThese() {
        for (char c = 33; c <= 126; c++) {
            int digit = "0123456789abcdef".indexOf(c);
            if (digit >= 0) {
                is(1, "0x" + c, digit);
                is(1, "0x1" + c, 16 + digit);
            } else {
                Due.wrongAt("v=0x" + c, 4);
                if (c != '#' && c != '_') {
                    Due.wrongAt("v=0x1" + c, 5);
                }
            }
        }
        wrong("0^X1");
        wrong("1^x1");
        wrong("0xf^F");
        wrong("0x^x1");
    }

    private static void hexHasNoSign() {
        wrong("+0^x1");
        wrong("-0^x1");
        wrong("0x^-1");
        wrong("0x^+1");
    }

    private static void aSignStandsOnce() {
        wrong("+^+1");
        wrong("-^-1");
        wrong("+^-1");
        wrong("-^+1");
        wrong("1^+1");
        wrong("1^-");
        wrong("-^ 1");
    }

    private static void oneUnderscoreBetweenTwoDigits() {
        is(1, "1_0", 10);
        is(1, "-1_0", -10);
        is(1, "1_2_3_4_5_6_7_8_9", 123456789);
        is(1, "12_345_678", 12345678);
        is(1, "0xf_f", 255);
        is(1, "0x0_0_0_0_0_0_1", 1);
        wrong("1_^_0");
        wrong("1_^");
        wrong("1_^ 0");
        wrong("1_^a");
        wrong("^_1");
        wrong("-^_1");
        wrong("+^_1");
        wrong("1_0_^_0");
        wrong("0x^_1");
        wrong("0xf_^_f");
        wrong("0xf_^");
        wrong("0xf_^g");
        wrong("0^_x1");
    }

    private static void plusAndMinus0Are0() {
        is(1, "+0", 0);
        is(1, "-0", 0);
        Due.reads("a=+0\nb=-0", "a = 0\nb = 0\n");
    }

    private static void fourDigitsAndAMinusAreADate() {
        is(1, "2024", 2024);
        is(4, "2024-01-01", 20240101);
        is(4, "0000-01-01", 101);
        is(4, "0012-01-01", 120101);
        wrong("202^-01-01");
        wrong("20^-01-01");
        wrong("2^-01-01");
        wrong("20240^-01-01");
        wrong("+2024^-01-01");
        wrong("-2024^-01-01");
        wrong("2_024^-01-01");
        wrong("202_4^-01-01");
        wrong("0^-01-01");
        wrong("0^00-01-01");
        wrong("0^0000-01-01");
        wrong("0^012");
        wrong("0^012_-");
        wrong("0x12^-01-01");
        Due.wrongAtMark("v=2024-^");
        wrong("2024-^ ");
        wrong("2024-^-01");
        wrong("2024 ^-01-01");
    }

    private static void monthsAre01To12() {
        for (int month = 0; month <= 99; month++) {
            String two = "" + month / 10 + month % 10;
            if (month >= 1 && month <= 12) {
                is(4, "2023-" + two + "-15", 20230015 + 100 * month);
            } else {
                Due.wrongAtMark("v=2023-^" + two + "-15");
            }
        }
        wrong("2023-^00-15");
        wrong("2023-^13-15");
        wrong("2023-1^-15");
        wrong("2023-^-15");
        wrong("2023-01^5");
        wrong("2023-0^x");
    }

    private static void daysAreAsManyAsTheMonthHas() {
        int[] days = {31, 28, 31, 30, 31, 30, 31, 31, 30, 31, 30, 31};
        for (int month = 1; month <= 12; month++) {
            String begin = "2023-" + month / 10 + month % 10 + "-";
            for (int day = 0; day <= 99; day++) {
                String two = "" + day / 10 + day % 10;
                if (day >= 1 && day <= days[month - 1]) {
                    TableText x = Due.of("v=" + begin + two);
                    x.down(0);
                    Due.is(begin + two, x::value, 20230000 + 100 * month + day);
                } else {
                    Due.wrongAtMark("v=" + begin + "^" + two);
                }
            }
        }
        wrong("2023-01-^00");
        wrong("2023-01-^32");
        wrong("2023-04-^31");
        wrong("2023-01-1^");
        wrong("2023-01-0^x");
    }

    private static void februaryHas29InLeapYears() {
        int[] years = {0, 1, 2, 3, 4, 96, 100, 104, 200, 300, 400, 404, 800, 1000, 1600, 1700, 1800, 1900, 1904, 1996, 1999, 2000, 2001,
            2002, 2003, 2004, 2022, 2023, 2024, 2096, 2100, 2400, 9600, 9900, 9996, 9999};
        for (int year : years) {
            String four = "" + year / 1000 + year / 100 % 10 + year / 10 % 10 + year % 10;
            boolean leap = year % 400 == 0 || year % 4 == 0 && year % 100 != 0;
            is(4, four + "-02-28", year * 10000 + 228);
            if (leap) {
                is(4, four + "-02-29", year * 10000 + 229);
                Due.wrongAtMark("v=" + four + "-02-^30");
            } else {
                Due.wrongAtMark("v=" + four + "-02-^29");
            }
            is(4, four + "-01-31", year * 10000 + 131);
            Due.wrongAtMark("v=" + four + "-04-^31");
        }
    }

    private static void aDateIsANumber() {
        is(4, "0000-01-01", 101);
        is(4, "0001-01-01", 10101);
        is(4, "9999-12-31", 99991231);
        Due.reads("a=0000-01-01\nb=0010-10-10\nc=9999-12-31", "a = 0000-01-01\nb = 0010-10-10\nc = 9999-12-31\n");
    }

    private static void datesAreDigitsAndMinus() {
        for (char c = 32; c <= 126; c++) {
            boolean digit = c >= '0' && c <= '9';
            if (!digit) {
                Due.wrongAt("v=2023-" + c + "1-01", 7);
                Due.wrongAt("v=2023-1" + c + "-01", 8);
                Due.wrongAt("v=2023-01-" + c + "1", 10);
                Due.wrongAt("v=2023-01-1" + c, 11);
            }
            if (c != '-') {
                Due.wrongAt("v=2023-01" + c + "01", 9);
            }
            if (c != ' ' && c != '#') {
                Due.wrongAt("v=2023-01-01" + c, 12);
            }
        }
    }

    private static void trueAndFalse() {
        is(2, "true", 1);
        is(2, "false", 0);
        String[] words = {"true", "false"};
        for (String word : words) {
            for (int i = 1; i < word.length(); i++) {
                wrong(word.substring(0, i) + "^_");
                wrong(word.substring(0, i) + "^ ");
                Due.wrongAtMark("v=" + word.substring(0, i) + "^");
            }
            wrong(word + "^" + word);
            wrong(word + "^1");
            wrong(word + "^.");
        }
        wrong("^True");
        wrong("^FALSE");
        wrong("t^RUE");
        wrong("f^rue");
        wrong("t^alse");
    }

    private static void whereANumberCanNotGoOn() {
        for (char c = 33; c <= 126; c++) {
            boolean digit = c >= '0' && c <= '9';
            if (!digit && c != '_' && c != '#') {
                Due.wrongAt("v=12" + c, 4);
                Due.wrongAt("v=-12" + c, 5);
                Due.wrongAt("v=12_" + c, 5);
            }
            if (c != '#' && c != 'x') {
                Due.wrongAt("v=0" + c, 3);
            }
            if (c != '#') {
                Due.wrongAt("v=-0" + c, 4);
            }
        }
    }
}
