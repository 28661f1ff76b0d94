import java.util.function.Consumer;

/** Objects in several states, in which calls are refused. */
enum Setup implements Consumer<LetterOunces> {
    /** No post, but rows, a tape and a finding. */
    BARE {
        @Override public void accept(LetterOunces x) {
            Check.feedAll(x, "p7,7;o7;l1");
            rows(x);
            x.copy(1, 0, 5, 0, 1);
        }
    },
    /** A post with letters that wait and that are sent, acts, images, rows, a trace, a fault, a tape and a finding. */
    RICH {
        @Override public void accept(LetterOunces x) {
            rich(x, "p1,99;", "p7,7;o7;l1");
        }
    },
    /** As many acts as are kept, with older ones that are forgotten, and no image. */
    BUSY {
        @Override public void accept(LetterOunces x) {
            Check.feedAll(x, "p3,2;o3;o1;o1;b7,0;l7,4;");
            x.post();
            for (int k = 0; k < 13; k++) {
                x.strap(k % 3);
                x.days(1);
            }
            x.back(0);
        }
    },
    /** A tape with as many bytes as it has room for. */
    TAPED {
        @Override public void accept(LetterOunces x) {
            Check.feedAll(x, "p9,9;o9;l1,0;");
            x.post();
            Check.feedAll(x, "p7,7;o7;l1" + "x".repeat(90));
        }
    };

    private static void rows(LetterOunces x) {
        x.row(1, 0, 4);
        Check.setAll(x, 1, 5, 6, 7, 8);
        x.row(5, 1, 3);
        Check.setAll(x, 5, 31, 0, 32);
        x.row(6, 2, 0);
        x.row(7, 2, 40);
        x.set(7, 39, 33);
    }

    static void rich(LetterOunces x, String faulty, String tape) {
        Check.feedAll(x, faulty);
        x.post();
        Check.feedAll(x, Check.FIVE);
        x.post();
        x.image(0);
        x.days(2);
        x.say(3, 3);
        x.unsay(0, 0);
        x.back(1);
        x.strap(50);
        x.limit(7);
        x.image(1);
        x.days(1);
        x.back(2);
        x.ask(1, 0);
        Check.feedAll(x, tape);
        rows(x);
        x.set(1, 4, 0);
    }

    LetterOunces made() {
        LetterOunces x = new LetterOunces();
        accept(x);
        return x;
    }
}
