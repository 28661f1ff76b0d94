import com.sun.management.ThreadMXBean;
import java.lang.management.ManagementFactory;
import java.util.function.ToIntFunction;

/** LANGUAGE 12: what a run makes is small. Only a new object and a text that is read make any; no other call does. */
final class RoomTest {
    private static final int TURNS = 200;
    /** Far below what one object a call would come to, yet above what the machine makes by itself now and then. */
    private static final int SLACK = 1000;
    private static final int MOST_NEW = 10000, MOST_READ = 2000;
    private static final ThreadMXBean THREADS = (ThreadMXBean) ManagementFactory.getThreadMXBean();

    private final Check check = new Check();

    public static void main(String[] args) {
        RoomTest test = new RoomTest();
        test.newObject();
        test.reading();
        test.faulty();
        test.rows();
        test.acts();
        test.foretold();
        test.asked();
        test.refused();
        test.check.end();
    }

    /** Bytes made by so many calls; they are made once ahead of it, as the machine itself makes objects at first. */
    private static long made(LetterOunces x, ToIntFunction<LetterOunces> call) {
        long before = 0;
        for (int round = 0; round < 2; round++) {
            before = THREADS.getCurrentThreadAllocatedBytes();
            for (int turn = 0; turn < TURNS; turn++) {
                call.applyAsInt(x);
            }
        }
        return THREADS.getCurrentThreadAllocatedBytes() - before;
    }

    private void nothing(String name, ToIntFunction<LetterOunces> call) {
        long made = made(Setup.RICH.made(), call);
        check.due("bytes made by " + name, made > SLACK ? (int) made : 0, 0);
    }

    private void newObject() {
        LetterOunces[] kept = new LetterOunces[1];
        long made = made(null, x -> {
            kept[0] = new LetterOunces();
            return 0;
        });
        check.due("bytes made by a new object", (int) Math.max(made / TURNS, MOST_NEW), MOST_NEW);
    }

    private static int read(LetterOunces x, String text) {
        for (int i = 0; i < text.length(); i++) {
            x.feed(text.charAt(i));
        }
        return x.post();
    }

    private void reading() {
        long made = made(new LetterOunces(), x -> read(x, Check.FIVE));
        check.due("bytes made by a text", (int) Math.max(made / TURNS, MOST_READ), MOST_READ);
    }

    private void faulty() {
        nothing("a faulty text", x -> read(x, "p12,4;o3;o5;o5;o2;l15,1;v6,2;b7,0;c15,0;w15,8"));
        nothing("feed on a full tape", x -> x.feed(0));
        nothing("post of nothing", LetterOunces::post);
        nothing("fault", LetterOunces::fault);
    }

    private void rows() {
        nothing("row", x -> x.row(2, 2, 40));
        nothing("set", x -> x.set(7, 39, 5));
        nothing("copy", x -> x.copy(7, 0, 7, 1, 39));
        nothing("row and drop", x -> x.row(3, 0, 40) + x.drop(3));
        nothing("status", LetterOunces::status);
    }

    private void acts() {
        nothing("days", x -> x.days(1));
        nothing("say and unsay", x -> x.say(0, 0) + x.unsay(0, 0));
        nothing("back and undo", x -> x.back(0) + x.undo());
        nothing("strap", x -> x.strap(99));
        nothing("limit", x -> x.limit(60));
        nothing("image and restore", x -> x.image(0) + x.restore(0) + x.restore(1));
        nothing("letter", x -> x.letter(0, 3) + x.letter(0, 5));
        nothing("ounces", x -> x.ounces(0));
        nothing("count", x -> x.count(0) + x.count(9));
    }

    private void foretold() {
        nothing("ahead", x -> x.ahead(2, 60, 0));
        nothing("later", x -> x.later(60, 0));
        nothing("when", x -> x.when(3));
        nothing("lighten", x -> x.lighten(2, 0, 1));
        nothing("guess", x -> x.guess(2, 1));
        nothing("load", x -> x.load(99, 0));
        nothing("share", x -> x.share(2, 999));
        for (int what = 0; what <= 4; what++) {
            int of = what;
            nothing("fits of " + what, x -> x.fits(2, 7, 0, 12, of));
        }
        nothing("slips", x -> x.slips(2, 9, 30, 5, 1));
        nothing("drawn", x -> x.drawn(60, 999999, 0));
    }

    private void asked() {
        nothing("kind", x -> x.kind(4));
        nothing("as", x -> x.as(4, 4));
        nothing("ask", x -> x.ask(1, 0) + x.ask(4, 1));
        nothing("trace", x -> x.trace(0));
    }

    private void refused() {
        nothing("what is BAD", x -> x.row(8, 0, 0) + x.feed(256) + x.letter(7, 0) + x.fits(7, 0, 0, 1, 0) + x.count(10));
        nothing("what is STATE", x -> x.say(0, 3) + x.back(2));
        nothing("what is found", x -> x.row(0, 0, -1) + x.set(0, 0, 0) + x.set(1, 4, 0) + x.copy(1, 0, 5, 0, 1) + x.as(0, 5));
    }
}
