import java.lang.reflect.Method;
import java.util.ArrayList;
import java.util.Arrays;
import java.util.List;
import java.util.Random;

/** Random runs (fixed seeds) of DoorTown beside Model; after each call all that can be asked cheaply is compared. */
public final class ModelTest {
    /** A call, how often it comes, and a letter for each of its numbers (see bounds). */
    private static final String[] CALLS = {
        "alter 8 p 4 8", "price 6 8 w", "build 2 8 8", "plan 8 p w", "cut 2 7", "hang 9 p w", "fill 4 w",
        "steps 5 p 8", "way 9 p 8 4", "meet 3 p p", "runs 6 4", "ahead 3 p", "best 6 p 8 2", "friend 6 p 8 2",
        "gain 6 p 2", "shut 8 p 8 2", "leave 6 2", "kindly 6 p 2", "dear 6 p 2", "luck 6 t p 8 2", "mean 5 t p 2",
        "see 5 p 8 b", "forget 3 7", "kinds 5 p", "walls 5 p", "ask 7 p 2", "drift 7 any 60 2", "keep 2 2",
        "back 3 2", "sheet 3 4 3 40", "lay 3 4 40 any", "read 3 4 3 40 21", "feed 1 127", "end 1 9",
        "fault 1", "torn 2", "rule 3 6", "one 4 p 7", "wall 3 w 4", "room 3 8 2", "act 3 6 2", "count 3 6",
    };
    private static final String[] WORDS = {"own", "house", "stranger", "gaol", "wall", "room", "plan", "door", "ow"};

    private final Random random;
    private final DoorTown town = new DoorTown();
    private final Model model = new Model();
    private final List<String> told = new ArrayList<>();
    private int calls = 0;

    private ModelTest(long seed) {
        random = new Random(seed);
    }

    public static void main(String[] args) throws Exception {
        int runs = args.length > 0 ? Integer.parseInt(args[0]) : 2000;
        long first = args.length > 1 ? Long.parseLong(args[1]) : 0;
        for (long seed = first; seed < first + runs; seed++) {
            ModelTest run = new ModelTest(seed);
            if (!run.isAsModel()) {
                System.out.println("run of seed " + seed + ": " + String.join(" ", run.told));
                System.exit(1);
            }
        }
        System.out.println(runs + " runs as the model");
    }

    private boolean isAsModel() throws Exception {
        boolean well = random.nextInt(20) == 0 || feedText(goodText());
        while (well && calls < 480) {
            int dice = random.nextInt(600);
            if (dice == 0) {
                well = random.nextInt(4) > 0 ? feedText(badText()) : same("text") && same("fault");
            } else if (dice < 10) {
                well = layAndRead();
            } else {
                well = randomCall() && (random.nextInt(40) > 0 || looksAlike());
            }
        }
        return well;
    }

    private boolean looksAlike() throws Exception {
        boolean well = same("count", 0) && same("count", 1) && same("count", 4) && same("count", 5);
        for (int what = 0; what <= 5 && well; what++) {
            well = same("rule", what);
        }
        for (int p = 0; p < model.s.people.size() && well; p++) {
            well = same("one", p, 3) && same("one", p, 4) && same("one", p, 6);
        }
        return well;
    }

    /** A SHEET of ONES and WALLS, sometimes torn. */
    private boolean layAndRead() throws Exception {
        int sheet = random.nextInt(4);
        int lane = random.nextInt(3);
        int acts = 1 + random.nextInt(3);
        boolean well = same("sheet", sheet, lane, 2 * acts + random.nextInt(2));
        for (int i = 0; i < 2 * acts && well; i++) {
            int high = i % 2 == 0 ? model.s.people.size() : model.s.walls.size();
            int v = random.nextInt(15) == 0 ? someNumber("any") : random.nextInt(high + 1);
            well = same("lay", sheet, i, v + (random.nextInt(5) == 0 ? 256 * random.nextInt(300) : 0));
        }
        int as = random.nextInt(6) == 0 ? random.nextInt(3) : lane;
        int from = random.nextInt(4) == 0 ? random.nextInt(6) - 1 : 0;
        return well && same("read", sheet, as, from, 1 + random.nextInt(acts + 1)) && same("torn") && looksAlike();
    }

    private boolean randomCall() throws Exception {
        int sum = 0;
        for (String call : CALLS) {
            sum += Integer.parseInt(call.split(" ")[1]);
        }
        int at = random.nextInt(sum);
        for (String call : CALLS) {
            String[] parts = call.split(" ");
            at -= Integer.parseInt(parts[1]);
            if (at < 0) {
                int[] numbers = new int[parts.length - 2];
                for (int i = 0; i < numbers.length; i++) {
                    numbers[i] = someNumber(parts[2 + i]);
                }
                return same(parts[0], numbers);
            }
        }
        return true;
    }

    /** p a ONE, w a WALL, t tenths, b yes or no; else below so much; seldom just outside or far out. */
    private int someNumber(String bound) {
        int dice = random.nextInt(120);
        if (bound.equals("b")) {
            return random.nextInt(2);
        }
        if (bound.equals("any")) {
            return dice < 60 ? random.nextInt(9) : random.nextInt();
        }
        int below = bound.equals("p") ? model.s.people.size() : bound.equals("w") ? model.s.walls.size()
            : bound.equals("t") ? 11 : Integer.parseInt(bound);
        if (dice == 0) {
            return random.nextBoolean() ? Integer.MIN_VALUE + random.nextInt(3) : Integer.MAX_VALUE - random.nextInt(3);
        }
        return dice < 6 ? -1 : dice < 12 ? below : random.nextInt(Math.max(1, below));
    }

    private boolean same(String name, int... numbers) throws Exception {
        if (calls >= 512) {
            return true;
        }
        calls++;
        Class<?>[] types = new Class<?>[numbers.length];
        Object[] values = new Object[numbers.length];
        for (int i = 0; i < numbers.length; i++) {
            boolean truth = name.equals("see") && i == 2;
            types[i] = truth ? boolean.class : int.class;
            values[i] = truth ? (Object) (numbers[i] % 2 == 0) : (Object) numbers[i];
        }
        Method asked = DoorTown.class.getMethod(name, types);
        Method due = Model.class.getMethod(name, types);
        Object got = asked.invoke(town, values);
        Object want = due.invoke(model, values);
        told.add(name + Arrays.toString(values) + "=" + got);
        if (!got.equals(want)) {
            told.add("WRONG, due is " + want);
        }
        return got.equals(want);
    }

    private boolean feedText(String text) throws Exception {
        if (calls + text.length() + 5 > 500) {
            return true;
        }
        boolean well = same("end", 0);
        for (int i = 0; i < text.length() && well; i++) {
            well = same("feed", text.charAt(i));
        }
        return well && same("text") && same("fault") && looksAlike();
    }

    /** Lines that fit THE TAPE, mostly without a FAULT; few ROOMS, so that there are ways. */
    private String goodText() {
        StringBuilder text = new StringBuilder();
        int people = random.nextInt(20) == 0 ? 6 : 2 + random.nextInt(4);
        int walls = random.nextInt(20) == 0 ? 10 : 3 + random.nextInt(7);
        int rooms = 2 + random.nextInt(7);
        int nextWall = 0;
        for (int p = 0; p < people; p++) {
            text.append(WORDS[random.nextInt(4)]).append(random.nextInt(4)).append(' ').append(random.nextInt(rooms));
            nextWall += random.nextInt(4) / 3;
            if (random.nextInt(3) > 0 && nextWall < Math.min(9, walls)) {
                text.append(' ').append(nextWall++);
            }
            text.append(';');
        }
        for (int w = 0; w < walls; w++) {
            int a = random.nextInt(rooms);
            text.append("wall").append(a).append(' ').append((a + 1 + random.nextInt(rooms - 1)) % rooms).append(';');
        }
        if (random.nextInt(3) == 0 && text.length() < 130) {
            text.append("plan");
            for (int i = random.nextInt(8); i > 0; i--) {
                text.append(random.nextInt(Math.min(5, people))).append(' ');
                text.append(random.nextInt(Math.min(9, walls))).append(' ');
            }
            text.append(';');
        }
        int firstRoom = random.nextInt(8);
        for (int r = random.nextInt(4); r > 0; r--) {
            text.append("room").append((firstRoom + r) % 8).append(' ').append(random.nextInt(100)).append(';');
        }
        return text.length() > 160 ? text.substring(0, text.lastIndexOf(";", 159) + 1) : text.toString();
    }

    /** A plan of about as many ACTS as there may be, with any TOKEN, or none, behind it. */
    private String longPlan() {
        StringBuilder text = new StringBuilder("own 0 0;wall 0 1;plan");
        for (int i = 5 + random.nextInt(3); i > 0; i--) {
            text.append(random.nextInt(30) / 29).append(" 0 ");
        }
        String[] behind = {"", ";", WORDS[random.nextInt(WORDS.length)], "?", "100", "" + random.nextInt(12)};
        return text.append(behind[random.nextInt(behind.length)]).append(random.nextBoolean() ? ";" : "").toString();
    }

    /** A short text of random TOKENS, or a good one with a byte or two changed. */
    private String badText() {
        if (random.nextInt(5) == 0) {
            return longPlan();
        }
        StringBuilder text = new StringBuilder(random.nextBoolean() ? goodText() : "");
        if (text.length() == 0) {
            for (int i = random.nextInt(14); i > 0; i--) {
                int dice = random.nextInt(8);
                text.append(dice < 2 ? WORDS[random.nextInt(WORDS.length)] : dice < 6 ? random.nextInt(12) + " " : "; ");
            }
            return text.toString();
        }
        for (int i = 1 + random.nextInt(2); i > 0; i--) {
            int at = random.nextInt(text.length());
            int dice = random.nextInt(4);
            char sign = " ;0123456789wplanx?".charAt(random.nextInt(19));
            if (dice == 0) {
                text.setCharAt(at, sign);
            } else if (dice == 1 && text.length() > 1) {
                text.deleteCharAt(at);
            } else if (dice == 2) {
                text.insert(at, sign);
            } else {
                text.setLength(Math.max(1, at));
            }
        }
        return text.toString();
    }
}
