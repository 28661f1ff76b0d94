/** Promises 16 and 17: what letters are, weigh and blurt. */
final class LettersTest {
    public static void main(String[] args) {
        Check check = new Check();
        promise16letter(check);
        promise16weights(check);
        promise16blurts(check);
        boysBlurtOnEvenDays(check);
        loversBlurtTheLightest(check);
        edgesOfLimitAndStrap(check);
        promise17ounces(check);
        check.end();
    }

    private static void promise16letter(Check check) {
        LetterOunces x = Check.reading(Check.FIVE);
        check.due("letter(5, 0)", x.letter(5, 0), Check.BAD);
        check.due("letter(-1, 0)", x.letter(-1, 0), Check.BAD);
        check.due("letter(0, 6)", x.letter(0, 6), Check.BAD);
        check.due("letter(0, -1)", x.letter(0, -1), Check.BAD);
        int[][] due = {{15, 1, 14, 12, 1, 2}, {6, 2, 4, 10, 1, 4}, {7, 0, 7, 14, 1, 2}, {15, 0, 15, 7, 1, 0},
            {15, 8, 7, 1, 1, 0}};
        for (int letter = 0; letter < 5; letter++) {
            for (int what = 0; what <= 5; what++) {
                check.due("letter(" + letter + ", " + what + ")", x.letter(letter, what), due[letter][what]);
            }
        }
        x.days(1);
        check.due("letter(0, 4) of one SENT", x.letter(0, 4), 0);
        check.due("letter(0, 5) of one SENT, did it wait", x.letter(0, 5), 4);
        check.due("letter(2, 4)", x.letter(2, 4), 1);
        check.due("letter(2, 5) on DAY 1", x.letter(2, 5), 0);
    }

    private static void promise16weights(Check check) {
        // Words of 9, 9 and 5 ounces: each kind with both nines, all, the five alone and nothing unsaid.
        String words = "p0,60;o9;o9;o5;";
        String[] sorts = {"l", "v", "b", "c", "w"};
        int[][] due = {{18, 23, 5, 0}, {36, 46, 10, 0}, {18, 24, 5, 0}, {9, 11, 2, 0}, {4, 6, 0, 0}};
        for (int k = 0; k < 5; k++) {
            String s = sorts[k];
            LetterOunces x = Check.reading(words + s + "7,4;" + s + "7,0;" + s + "7,3;" + s + "7,7;");
            for (int letter = 0; letter < 4; letter++) {
                check.due("weight of " + s + letter, x.letter(letter, 3), due[k][letter]);
            }
        }
        LetterOunces x = Check.reading("p0,60;o1;o1;o9;l0,0;v0,0;b0,0;c0,0;w0,0;w6,0;w7,0;");
        int[] empty = {0, 0, 1, 0, 0, 0, 0};
        for (int letter = 0; letter < 7; letter++) {
            check.due("weight with little to say " + letter, x.letter(letter, 3), empty[letter]);
        }
        x = Check.reading("p0,60;o9;o2;o1;w3,0;w7,0;");
        check.due("a lawyer's of 11", x.letter(0, 3), 0);
        check.due("a lawyer's of 12", x.letter(1, 3), 1);
    }

    private static void promise16blurts(Check check) {
        String law = "p0,0;o2;o7;o2;o7;";
        LetterOunces x = Check.reading(law + "l15,0;v15,0;b15,0;c15,0;w15,4;l5,0;v10,0;");
        int[] due = {2, 1, 2, 0, 11, 1, 2};
        for (int letter = 0; letter < 7; letter++) {
            check.due("blurt of " + letter, x.letter(letter, 5), due[letter]);
        }
        x = Check.reading(law + "b0,0;l15,15;v1,1;b8,8;w2,0;");
        for (int letter = 0; letter < 5; letter++) {
            check.due("nothing to blurt " + letter, x.letter(letter, 5), 0);
        }
        check.due("yet the boy's weighs", x.letter(0, 3), 1);
    }

    private static void boysBlurtOnEvenDays(Check check) {
        LetterOunces x = Check.reading("p0,0;o1;o2;b3,0;");
        int[] blurts = {2, 0, 1, 0};
        int[] saids = {2, 2, 3, 3};
        int[] sent = {0, 0, 1, 1};
        for (int day = 0; day < 4; day++) {
            check.due("the boy's on DAY " + day, x.letter(0, 5), blurts[day]);
            check.due("SENT behind DAY " + day, x.days(1), sent[day]);
            check.due("SAID behind DAY " + day, x.letter(0, 1), saids[day]);
        }
    }

    private static void loversBlurtTheLightest(Check check) {
        LetterOunces x = Check.reading("p0,0;o3;o2;o2;v7,0;");
        int[] saids = {2, 6, 7};
        int[] weights = {10, 6, 0};
        for (int day = 0; day < 3; day++) {
            check.due("SENT behind DAY " + day, x.days(1), day == 2 ? 1 : 0);
            check.due("SAID behind DAY " + day, x.letter(0, 1), saids[day]);
            check.due("WEIGHT behind DAY " + day, x.letter(0, 3), weights[day]);
        }
    }

    private static void edgesOfLimitAndStrap(Check check) {
        LetterOunces x = Check.reading("p7,8;o8;o1;l1,0;l3,0;l2,0;");
        check.due("8 is not above 8", x.letter(0, 5), 0);
        check.due("9 is above 8", x.letter(1, 5), 1);
        check.due("8 is more than a strap of 7; two of 1 are not", x.days(1), 6);
        x.strap(8);
        check.due("8 is no more than 8", x.days(1), 7);
        check.due("PAID", x.count(6), 10);
        x = Check.reading("p5,60;o3;o2;l1,0;l1,0;l2,0;l0,0;");
        check.due("what is left is 2, then 0, which takes no weight yet", x.days(1), 13);
        check.due("the strap is whole the next DAY", x.days(1), 15);
    }

    private static void promise17ounces(Check check) {
        LetterOunces x = Check.reading("p0,0;o9;o1;o5;o5;o2;o7;l63,0;");
        int[] due = {9, 1, 5, 5, 2, 7};
        for (int word = 0; word < 6; word++) {
            check.due("ounces(" + word + ")", x.ounces(word), due[word]);
        }
        check.due("ounces(6)", x.ounces(6), Check.BAD);
        check.due("ounces(-1)", x.ounces(-1), Check.BAD);
        check.due("ounces(32)", x.ounces(32), Check.BAD);
        check.due("ounces(1) of one word", Check.reading("p0,0;o9;l1,0;").ounces(1), Check.BAD);
    }
}
